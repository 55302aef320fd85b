/-! PART hn: the class: callMember for methods that give a number, nothing, or use a field. -/
section Whn
variable {xs : List (Nat × List Int32)} {M : Nat → Prop} {d : Nat} {S Z A : wS} {T : Int → Int} {cs : List hCR} {ms : List hMR} {os : Int → List Int}
/-- the same but for what the linker keeps of the value that is given -/
def gvR (S Z : wS) : Prop := ∀ (j : Nat) (i : Int), (j ≠ 158 ∨ (i ≠ 16 ∧ i ≠ 17)) → Z j i = S j i
/-- a method has been called: the trace, what it did (R), what it gives -/
def cmE (w : Nat) (h c p n kd ky vy k v m en : Int) (R : wS → wS → Prop) (S Z : wS) : Prop := ∃ A B : wS, trR m en S A ∧ R A B ∧ sO w h c p n (if kd = 1 then ky else k) (if kd = 1 then vy else v) B Z
theorem CL_tr {m k : Int} (hC : w_CL S) (h : trR m k S Z) : w_CL Z := by
  intro q hq
  have hg : wG = 1000000 := rfl
  have h1 : ∀ q ∈ wz_n, q.1 < 237 ∧ q.1 ≠ 152 := by decide
  obtain ⟨a1, a2⟩ := h1 q hq
  exact (h.2.2.2.1 q.1 (-1) (by omega) (by omega) a2 (Or.inr (by first | decide | omega))).trans (hC q hq)
theorem w_up_cg2 {B : wS} {a j : Nat} {b x i : Int} (h : S j i = B j i) : w_up S a b x j i = w_up B a b x j i := by
  by_cases c : j = a ∧ i = b
  · obtain ⟨rfl, rfl⟩ := c
    rw [w_up_same, w_up_same]
  · rw [w_up_no (by omega), w_up_no (by omega), h]
set_option maxHeartbeats 4000000 in
theorem cmv_73_215 {c p h kd ba m en tn ky vy  : Int} (hP : xP 215 c p h S) (l4 : S 158 4 = 215) (l5 : S 158 5 = 216) (l7 : S 158 7 = kd) (l8 : S 158 8 = ba) (l12 : S 158 12 = en) (hen : 0 ≤ en ∧ en ≤ 1000) (hba : 0 ≤ ba ∧ ba < h) (h72 : S 72 1 = 73) (hm : 0 ≤ m ∧ m < 400) (hso : S 98 m = 1) (ht15 : S 72 15 = tn) (ht0 : 0 ≤ tn ∧ tn ≤ S 152 (-1) ∧ tn ≤ 100000) (ht9 : 16 ≤ S 152 (-1) ∧ S 152 (-1) ≤ 131072 ∨ (16 ≤ S 152 (-1) ∧ S 152 (-1) ≤ 262143 ∧ tn + 2 ≤ S 152 (-1))) (hky : S 217 (h - 1) = ky) (hvy : S 218 (h - 1) = vy) (hkr : -128 ≤ ky ∧ ky ≤ 127) (hvr : -9223372036854775808 ≤ vy ∧ vy ≤ 9223372036854775807) (hmt : S 100 m = 0) (hmf : S 112 m = -1) : wJ (pe_GA xs) wY0 (mS [217, 218, 152]) (d + 6) t_XL_callMember ((pe_at t_XL_callMember.bl 0).getD (0, [])).2 [(0, (2, 158)), (1, (0, m))] [] S (fun o Z => o = .inl none ∧ ((100000 < tn + 2 ∧ w_up S 215 16 99 = Z) ∨ (¬ (100000 < tn + 2) ∧ cmE 215 h c p (h - ba) kd ky vy 0 0 m en gvR S Z))) := by
  obtain ⟨⟨hC, hI⟩, ⟨bc, bc0, bc1⟩, ⟨bp, bp0, bp1⟩, ⟨bh, bh0, bh1, bh2⟩, bl1, bl2, bl3⟩ := hP
  replace bp : S 220 (c - 1) = p := bp
  replace bh : S 216 2 = h := bh
  replace bh2 : h ≤ S 217 (-1) := bh2
  replace bl1 : S 218 (-1) = S 217 (-1) := bl1
  replace bl2 : 64 ≤ S 217 (-1) := bl2
  replace bl3 : S 217 (-1) ≤ 4095 := bl3
  refine wa_aload_n (n := 0) rfl ?_
  refine wb_gf4 158 rfl (wy_pr rfl) wt_158 wf_5_0 (v := 72) wl_158_0 ?_
  refine wb_gf5 72 rfl (wy_pr rfl) wt_72 wf_2_1 (v := 73) (h72) (fun r1 => ?_)
  refine wa_astore_n (n := 2) rfl ?_
  refine wa_aload_n (n := 2) rfl ?_
  refine wb_gf4 73 rfl (wy_pr rfl) wt_73 wf_3_3 (v := 96) wl_73_3 ?_
  refine wa_iconst ?_
  refine wb_aald5 96 1 rfl rfl (wy_pr rfl) wt_96 (by rw [show _ = _ from ((cl_96 hC))]; omega) wl_96_1 ?_
  refine wa_iload_n (n := 1) rfl ?_
  refine wb_iald 98 rfl (wy_pr rfl) wt_98 (n := 400) ((cl_98 hC)) (by omega) (by omega) (v := 1) (hso) (fun r2 => ?_)
  refine wa_iconst ?_
  refine wa_icmpne (w_rg0 (by omega) (by omega)) (w_rg0 (by omega) (by omega)) ⟨_, rfl⟩ (fun c3 => ?_) (fun c3 => ?_)
  · skip
    refine wa_iconst ?_
    refine wa_fall ⟨_, rfl⟩ ?_
    refine wa_istore_n (n := 3) rfl ?_
    refine wa_iload_n (n := 3) rfl ?_
    refine wa_ifne (w_rg0 (by omega) (by omega)) ⟨_, rfl⟩ (fun c4 => ?_) (fun c4 => ?_)
    · skip
      exact absurd c4 (by omega)
    · skip
      refine wa_aload_n (n := 2) rfl ?_
      refine wb_gf4 73 rfl (wy_pr rfl) wt_73 wf_3_3 (v := 96) wl_73_3 ?_
      refine wa_iconst ?_
      refine wb_aald5 96 3 rfl rfl (wy_pr rfl) wt_96 (by rw [show _ = _ from ((cl_96 hC))]; omega) wl_96_3 ?_
      refine wa_iload_n (n := 1) rfl ?_
      refine wb_iald 100 rfl (wy_pr rfl) wt_100 (n := 400) ((cl_100 hC)) (by omega) (by omega) (v := 0) (hmt) (fun r5 => ?_)
      refine wa_bipush (w_rg2 (by omega) (by omega)) ?_
      refine wa_icmpne (w_rg0 (by omega) (by omega)) (w_rg0 (by omega) (by omega)) ⟨_, rfl⟩ (fun c6 => ?_) (fun c6 => ?_)
      · skip
        refine wa_iconst ?_
        refine wa_fall ⟨_, rfl⟩ ?_
        refine wa_istore (n := 4) rfl ?_
        refine wa_iload_n (n := 3) rfl ?_
        refine wa_ifeq (w_rg0 (by omega) (by omega)) ⟨_, rfl⟩ (fun c7 => ?_) (fun c7 => ?_)
        · skip
          refine wa_iconst ?_
          refine wa_fall ⟨_, rfl⟩ ?_
          refine wa_istore (n := 5) rfl ?_
          refine wa_aload_n (n := 0) rfl ?_
          refine wb_gf4 158 rfl (wy_pr rfl) wt_158 wf_5_0 (v := 72) wl_158_0 ?_
          refine wb_gfi 72 rfl (wy_pr rfl) wt_72 wf_2_15 (v := tn) (ht15) (fun r8 => ?_)
          refine wa_iconst ?_
          refine wa_iadd ?_
          refine wb_ki (n := 100000) rfl ?_
          refine wa_icmpgt (w_rg0 (by omega) (by omega)) (w_rg0 (by omega) (by omega)) ⟨_, rfl⟩ (fun c9 => ?_) (fun c9 => ?_)
          · skip
            refine wa_aload_n (n := 0) rfl ?_
            refine wb_gf5 158 rfl (wy_pr rfl) wt_158 wf_5_4 (v := 215) (l4) (fun r10 => ?_)
            refine wa_bipush (w_rg2 (by omega) (by omega)) ?_
            refine wb_pfi 215 rfl (wy_pr rfl) wt_215 wf_8_16 (n := 16) rfl ⟨(by omega), (by omega)⟩ ?_
            refine wa_return rfl ?_
            exact ⟨rfl, Or.inl ⟨by omega, rfl⟩⟩
          · skip
            refine wa_iload_n (n := 3) rfl ?_
            refine wa_ifeq (w_rg0 (by omega) (by omega)) ⟨_, rfl⟩ (fun c11 => ?_) (fun c11 => ?_)
            · skip
              refine wa_iload (n := 4) rfl ?_
              refine wa_ifeq (w_rg0 (by omega) (by omega)) ⟨_, rfl⟩ (fun c12 => ?_) (fun c12 => ?_)
              · skip
                refine wa_aload_n (n := 0) rfl ?_
                refine wb_gf4 158 rfl (wy_pr rfl) wt_158 wf_5_0 (v := 72) wl_158_0 ?_
                refine wa_iload_n (n := 1) rfl ?_
                refine wa_aload_n (n := 0) rfl ?_
                refine wb_gfi 158 rfl (wy_pr rfl) wt_158 wf_5_12 (v := en) (l12) (fun r13 => ?_)
                refine wa_cv 72 rfl (wy_pr rfl) wt_72 (M2 := mS [152]) rfl at_XH_addTrace ⟨_, rfl⟩ rfl rfl ⟨trivial, trivial, trivial, (Or.inr ⟨wy_pr rfl, mS_no rfl⟩), (Or.inr ⟨wy_pr rfl, mS_no rfl⟩), trivial, trivial⟩ trivial (fun _ _ q => mS_sub (by decide) q) (tra (S := S) (m := m) (k := en) hI ⟨by omega, by omega⟩ ⟨by omega, by omega⟩ (by rw [ht15]; exact ht0) (by rw [ht15]; exact ht9)) (fun oq14 Sq14 hp15 q14 => ?_)
                rcases q14 with ⟨rfl, tr14⟩
                show wJ _ _ _ _ _ _ _ _ _ _
                refine wa_aload_n (n := 0) rfl ?_
                refine wa_iconst ?_
                refine wb_pfi 158 rfl (wy_pr rfl) wt_158 wf_5_16 (n := 16) rfl ⟨(by omega), (by omega)⟩ ?_
                refine wa_aload_n (n := 0) rfl ?_
                refine wb_lconst (m := 0) rfl ?_
                refine wb_pfl 158 rfl (wy_pr rfl) wt_158 wf_5_17 (n := 17) rfl ⟨(by omega), (by omega)⟩ ?_
                refine wa_iload_n (n := 3) rfl ?_
                refine wa_ifeq (w_rg0 (by omega) (by omega)) ⟨_, rfl⟩ (fun c16 => ?_) (fun c16 => ?_)
                · skip
                  refine wa_aload_n (n := 2) rfl ?_
                  refine wb_gf4 73 rfl (wy_pr rfl) wt_73 wf_3_3 (v := 96) wl_73_3 ?_
                  refine wa_bipush (w_rg2 (by omega) (by omega)) ?_
                  refine wb_aald5 96 15 rfl rfl (wy_pr rfl) wt_96 (by rw [show _ = _ from ((w_up_slot (by decide)).trans ((w_up_slot (by decide)).trans (((tr14.2.2.2.1 96 (-1) (by decide) (by decide) (by decide) (Or.inl (by decide))).trans ((cl_96 hC))))))]; omega) wl_96_15 ?_
                  refine wa_iload_n (n := 1) rfl ?_
                  refine wb_iald 112 rfl (wy_pr rfl) wt_112 (n := 400) ((w_up_slot (by decide)).trans ((w_up_slot (by decide)).trans (((tr14.2.2.2.1 112 (-1) (by decide) (by decide) (by decide) (Or.inl (by decide))).trans ((cl_112 hC)))))) (by omega) (by omega) (v := (-1)) ((w_up_slot (by decide)).trans ((w_up_slot (by decide)).trans (((tr14.2.2.2.1 112 m (by decide) (by decide) (by decide) (Or.inl (by decide))).trans (hmf))))) (fun r17 => ?_)
                  refine wa_iconst ?_
                  refine wa_icmpeq (w_rg0 (by omega) (by omega)) (w_rg0 (by omega) (by omega)) ⟨_, rfl⟩ (fun c18 => ?_) (fun c18 => ?_)
                  · skip
                    refine wa_aload_n (n := 0) rfl ?_
                    refine wa_iload_n (n := 1) rfl ?_
                    refine wa_cv 158 rfl (wy_pr rfl) wt_158 (M2 := fun _ => False) rfl at_XL_answer ⟨_, rfl⟩ rfl rfl ⟨trivial, trivial, trivial, (Or.inr ⟨wy_pr rfl, fun q => q⟩), (Or.inr ⟨wy_pr rfl, fun q => q⟩), trivial, trivial⟩ trivial (fun _ _ q => False.elim q) (anv_73_215 (S := (w_up (w_up Sq14 158 16 0) 158 17 0)) (m := m) (w_CL_up (w_CL_up (CL_tr hC tr14) (by omega)) (by omega)) ((w_up_slot (by decide)).trans ((w_up_slot (by decide)).trans (((tr14.2.2.2.1 72 1 (by decide) (by decide) (by decide) (Or.inr (by decide))).trans (h72))))) hm ((w_up_slot (by decide)).trans ((w_up_slot (by decide)).trans (((tr14.2.2.2.1 100 m (by decide) (by decide) (by decide) (Or.inl (by decide))).trans (hmt)))))) (fun oq19 Sq19 hp20 q19 => ?_)
                    rcases q19 with ⟨rfl, rfl⟩
                    show wJ _ _ _ _ _ _ _ _ _ _
                    refine wa_fall ⟨_, rfl⟩ ?_
                    refine wa_aload_n (n := 0) rfl ?_
                    refine wb_gfi 158 rfl (wy_pr rfl) wt_158 wf_5_7 (v := kd) ((w_up_at (by decide)).trans ((w_up_at (by decide)).trans (((tr14.2.2.2.1 158 7 (by decide) (by decide) (by decide) (Or.inl (by decide))).trans (l7))))) (fun r21 => ?_)
                    refine wa_iconst ?_
                    refine wa_icmpne (w_rg0 (by omega) (by omega)) (w_rg0 (by omega) (by omega)) ⟨_, rfl⟩ (fun c22 => ?_) (fun c22 => ?_)
                    · skip
                      refine wa_aload_n (n := 0) rfl ?_
                      refine wa_aload_n (n := 0) rfl ?_
                      refine wb_gfi 158 rfl (wy_pr rfl) wt_158 wf_5_16 (v := 0) ((w_up_at (by decide)).trans (w_up_same _ _ _ _)) (fun r23 => ?_)
                      refine wa_aload_n (n := 0) rfl ?_
                      refine wb_gfl 158 rfl (wy_pr rfl) wt_158 wf_5_17 (v := 0) (w_up_same _ _ _ _) (fun r24 => ?_)
                      refine wa_cv 158 rfl (wy_pr rfl) wt_158 (M2 := mS [217, 218]) rfl at_XL_giveValue ⟨_, rfl⟩ rfl rfl ⟨trivial, trivial, trivial, (Or.inr ⟨wy_pr rfl, mS_no rfl⟩), (Or.inr ⟨wy_pr rfl, mS_no rfl⟩), trivial, trivial⟩ trivial (fun _ _ q => mS_sub (by decide) q) (glx_215 (S := (w_up (w_up Sq14 158 16 0) 158 17 0)) (k := 0) (v := 0) (h := h) (c := c) (p := p) (ba := ba) (w_CL_up (w_CL_up (CL_tr hC tr14) (by omega)) (by omega)) (gI_up (gI_up tr14.2.2.2.2.2.1 (by omega) (by omega) (by omega)) (by omega) (by omega) (by omega)) ((w_up_at (by decide)).trans ((w_up_at (by decide)).trans (((tr14.2.2.2.1 158 4 (by decide) (by decide) (by decide) (Or.inl (by decide))).trans (l4))))) ((w_up_at (by decide)).trans ((w_up_at (by decide)).trans (((tr14.2.2.2.1 158 5 (by decide) (by decide) (by decide) (Or.inl (by decide))).trans (l5))))) ((w_up_at (by decide)).trans ((w_up_at (by decide)).trans (((tr14.2.2.2.1 158 8 (by decide) (by decide) (by decide) (Or.inl (by decide))).trans (l8))))) ((w_up_slot (by decide)).trans ((w_up_slot (by decide)).trans (((tr14.2.2.2.1 215 4 (by decide) (by decide) (by decide) (Or.inl (by decide))).trans (bc))))) ((w_up_slot (by decide)).trans ((w_up_slot (by decide)).trans (((tr14.2.2.2.1 220 (c - 1) (by decide) (by decide) (by decide) (Or.inl (by decide))).trans (bp))))) ((((w_up_slot (by decide)).trans ((w_up_slot (by decide)).trans (((tr14.2.2.2.1 218 (-1) (by decide) (by decide) (by decide) (Or.inl (by decide))).trans (bl1)))))).trans (((w_up_slot (by decide)).trans ((w_up_slot (by decide)).trans (((tr14.2.2.2.1 217 (-1) (by decide) (by decide) (by decide) (Or.inl (by decide))).trans (rfl)))))).symm) (by have e : (w_up (w_up Sq14 158 16 0) 158 17 0) 217 (-1) = S 217 (-1) := ((w_up_slot (by decide)).trans ((w_up_slot (by decide)).trans (((tr14.2.2.2.1 217 (-1) (by decide) (by decide) (by decide) (Or.inl (by decide))).trans (rfl))))); rw [e]; exact ⟨bl2, bl3⟩) (by have e : (w_up (w_up Sq14 158 16 0) 158 17 0) 217 (-1) = S 217 (-1) := ((w_up_slot (by decide)).trans ((w_up_slot (by decide)).trans (((tr14.2.2.2.1 217 (-1) (by decide) (by decide) (by decide) (Or.inl (by decide))).trans (rfl))))); omega) ⟨by omega, by omega⟩ ⟨by omega, by omega⟩ ⟨by omega, by omega⟩ ⟨by omega, by omega⟩) (fun oq25 Sq25 hp26 q25 => ?_)
                      rcases q25 with ⟨rfl, hgv25⟩
                      show wJ _ _ _ _ _ _ _ _ _ _
                      refine wa_return rfl ?_
                      refine ⟨rfl, Or.inr ⟨by omega, Sq14, (w_up (w_up Sq14 158 16 0) 158 17 0), tr14, ?_, ?_⟩⟩
                      · exact fun j i hji => (w_up_no (by omega)).trans ((w_up_no (by omega)).trans (rfl))
                      · first | (rw [if_pos (show kd = 1 by omega), if_pos (show kd = 1 by omega)]; exact hgv25) | (rw [if_neg (show ¬ kd = 1 by omega), if_neg (show ¬ kd = 1 by omega)]; exact hgv25)
                    · skip
                      refine wa_aload_n (n := 0) rfl ?_
                      refine wa_aload_n (n := 0) rfl ?_
                      refine wb_gf5 158 rfl (wy_pr rfl) wt_158 wf_5_5 (v := 216) ((w_up_at (by decide)).trans ((w_up_at (by decide)).trans (((tr14.2.2.2.1 158 5 (by decide) (by decide) (by decide) (Or.inl (by decide))).trans (l5))))) (fun r27 => ?_)
                      refine wb_gf4 216 rfl (wy_pr rfl) wt_216 wf_7_0 (v := 217) wl_216_0 ?_
                      refine wa_aload_n (n := 0) rfl ?_
                      refine wb_gf5 158 rfl (wy_pr rfl) wt_158 wf_5_5 (v := 216) ((w_up_at (by decide)).trans ((w_up_at (by decide)).trans (((tr14.2.2.2.1 158 5 (by decide) (by decide) (by decide) (Or.inl (by decide))).trans (l5))))) (fun r28 => ?_)
                      refine wb_gfi 216 rfl (wy_pr rfl) wt_216 wf_7_2 (v := h) ((w_up_slot (by decide)).trans ((w_up_slot (by decide)).trans (((tr14.2.2.2.1 216 2 (by decide) (by decide) (by decide) (Or.inl (by decide))).trans (bh))))) (fun r29 => ?_)
                      refine wa_iconst ?_
                      refine wa_isub ?_
                      refine wb_bald 217 rfl (wy_pr rfl) wt_217 (n := (S 217 (-1))) ((w_up_slot (by decide)).trans ((w_up_slot (by decide)).trans (((tr14.2.2.2.1 217 (-1) (by decide) (by decide) (by decide) (Or.inl (by decide))).trans (rfl))))) (by omega) (by omega) (v := ky) ((w_up_slot (by decide)).trans ((w_up_slot (by decide)).trans (((tr14.2.2.2.1 217 (h - 1) (by decide) (by decide) (by decide) (Or.inl (by decide))).trans (hky))))) (fun r30 => ?_)
                      refine wb_pfi 158 rfl (wy_pr rfl) wt_158 wf_5_16 (n := 16) rfl ⟨(by omega), (by omega)⟩ ?_
                      refine wa_aload_n (n := 0) rfl ?_
                      refine wa_aload_n (n := 0) rfl ?_
                      refine wb_gf5 158 rfl (wy_pr rfl) wt_158 wf_5_5 (v := 216) ((w_up_at (by decide)).trans ((w_up_at (by decide)).trans ((w_up_at (by decide)).trans (((tr14.2.2.2.1 158 5 (by decide) (by decide) (by decide) (Or.inl (by decide))).trans (l5)))))) (fun r31 => ?_)
                      refine wb_gf4 216 rfl (wy_pr rfl) wt_216 wf_7_1 (v := 218) wl_216_1 ?_
                      refine wa_aload_n (n := 0) rfl ?_
                      refine wb_gf5 158 rfl (wy_pr rfl) wt_158 wf_5_5 (v := 216) ((w_up_at (by decide)).trans ((w_up_at (by decide)).trans ((w_up_at (by decide)).trans (((tr14.2.2.2.1 158 5 (by decide) (by decide) (by decide) (Or.inl (by decide))).trans (l5)))))) (fun r32 => ?_)
                      refine wb_gfi 216 rfl (wy_pr rfl) wt_216 wf_7_2 (v := h) ((w_up_slot (by decide)).trans ((w_up_slot (by decide)).trans ((w_up_slot (by decide)).trans (((tr14.2.2.2.1 216 2 (by decide) (by decide) (by decide) (Or.inl (by decide))).trans (bh)))))) (fun r33 => ?_)
                      refine wa_iconst ?_
                      refine wa_isub ?_
                      refine wb_lald 218 rfl (wy_pr rfl) wt_218 (n := (S 217 (-1))) ((w_up_slot (by decide)).trans ((w_up_slot (by decide)).trans ((w_up_slot (by decide)).trans (((tr14.2.2.2.1 218 (-1) (by decide) (by decide) (by decide) (Or.inl (by decide))).trans (bl1)))))) (by omega) (by omega) (v := vy) ((w_up_slot (by decide)).trans ((w_up_slot (by decide)).trans ((w_up_slot (by decide)).trans (((tr14.2.2.2.1 218 (h - 1) (by decide) (by decide) (by decide) (Or.inl (by decide))).trans (hvy)))))) (fun r34 => ?_)
                      refine wb_pfl 158 rfl (wy_pr rfl) wt_158 wf_5_17 (n := 17) rfl ⟨(by omega), (by omega)⟩ ?_
                      refine wa_fall ⟨_, rfl⟩ ?_
                      refine wa_aload_n (n := 0) rfl ?_
                      refine wa_aload_n (n := 0) rfl ?_
                      refine wb_gfi 158 rfl (wy_pr rfl) wt_158 wf_5_16 (v := ky) ((w_up_at (by decide)).trans (w_up_same _ _ _ _)) (fun r35 => ?_)
                      refine wa_aload_n (n := 0) rfl ?_
                      refine wb_gfl 158 rfl (wy_pr rfl) wt_158 wf_5_17 (v := vy) (w_up_same _ _ _ _) (fun r36 => ?_)
                      refine wa_cv 158 rfl (wy_pr rfl) wt_158 (M2 := mS [217, 218]) rfl at_XL_giveValue ⟨_, rfl⟩ rfl rfl ⟨trivial, trivial, trivial, (Or.inr ⟨wy_pr rfl, mS_no rfl⟩), (Or.inr ⟨wy_pr rfl, mS_no rfl⟩), trivial, trivial⟩ trivial (fun _ _ q => mS_sub (by decide) q) (glx_215 (S := (w_up (w_up (w_up (w_up Sq14 158 16 0) 158 17 0) 158 16 ky) 158 17 vy)) (k := ky) (v := vy) (h := h) (c := c) (p := p) (ba := ba) (w_CL_up (w_CL_up (w_CL_up (w_CL_up (CL_tr hC tr14) (by omega)) (by omega)) (by omega)) (by omega)) (gI_up (gI_up (gI_up (gI_up tr14.2.2.2.2.2.1 (by omega) (by omega) (by omega)) (by omega) (by omega) (by omega)) (by omega) (by omega) (by omega)) (by omega) (by omega) (by omega)) ((w_up_at (by decide)).trans ((w_up_at (by decide)).trans ((w_up_at (by decide)).trans ((w_up_at (by decide)).trans (((tr14.2.2.2.1 158 4 (by decide) (by decide) (by decide) (Or.inl (by decide))).trans (l4))))))) ((w_up_at (by decide)).trans ((w_up_at (by decide)).trans ((w_up_at (by decide)).trans ((w_up_at (by decide)).trans (((tr14.2.2.2.1 158 5 (by decide) (by decide) (by decide) (Or.inl (by decide))).trans (l5))))))) ((w_up_at (by decide)).trans ((w_up_at (by decide)).trans ((w_up_at (by decide)).trans ((w_up_at (by decide)).trans (((tr14.2.2.2.1 158 8 (by decide) (by decide) (by decide) (Or.inl (by decide))).trans (l8))))))) ((w_up_slot (by decide)).trans ((w_up_slot (by decide)).trans ((w_up_slot (by decide)).trans ((w_up_slot (by decide)).trans (((tr14.2.2.2.1 215 4 (by decide) (by decide) (by decide) (Or.inl (by decide))).trans (bc))))))) ((w_up_slot (by decide)).trans ((w_up_slot (by decide)).trans ((w_up_slot (by decide)).trans ((w_up_slot (by decide)).trans (((tr14.2.2.2.1 220 (c - 1) (by decide) (by decide) (by decide) (Or.inl (by decide))).trans (bp))))))) ((((w_up_slot (by decide)).trans ((w_up_slot (by decide)).trans ((w_up_slot (by decide)).trans ((w_up_slot (by decide)).trans (((tr14.2.2.2.1 218 (-1) (by decide) (by decide) (by decide) (Or.inl (by decide))).trans (bl1)))))))).trans (((w_up_slot (by decide)).trans ((w_up_slot (by decide)).trans ((w_up_slot (by decide)).trans ((w_up_slot (by decide)).trans (((tr14.2.2.2.1 217 (-1) (by decide) (by decide) (by decide) (Or.inl (by decide))).trans (rfl)))))))).symm) (by have e : (w_up (w_up (w_up (w_up Sq14 158 16 0) 158 17 0) 158 16 ky) 158 17 vy) 217 (-1) = S 217 (-1) := ((w_up_slot (by decide)).trans ((w_up_slot (by decide)).trans ((w_up_slot (by decide)).trans ((w_up_slot (by decide)).trans (((tr14.2.2.2.1 217 (-1) (by decide) (by decide) (by decide) (Or.inl (by decide))).trans (rfl))))))); rw [e]; exact ⟨bl2, bl3⟩) (by have e : (w_up (w_up (w_up (w_up Sq14 158 16 0) 158 17 0) 158 16 ky) 158 17 vy) 217 (-1) = S 217 (-1) := ((w_up_slot (by decide)).trans ((w_up_slot (by decide)).trans ((w_up_slot (by decide)).trans ((w_up_slot (by decide)).trans (((tr14.2.2.2.1 217 (-1) (by decide) (by decide) (by decide) (Or.inl (by decide))).trans (rfl))))))); omega) ⟨by omega, by omega⟩ ⟨by omega, by omega⟩ ⟨by omega, by omega⟩ ⟨by omega, by omega⟩) (fun oq37 Sq37 hp38 q37 => ?_)
                      rcases q37 with ⟨rfl, hgv37⟩
                      show wJ _ _ _ _ _ _ _ _ _ _
                      refine wa_return rfl ?_
                      refine ⟨rfl, Or.inr ⟨by omega, Sq14, (w_up (w_up (w_up (w_up Sq14 158 16 0) 158 17 0) 158 16 ky) 158 17 vy), tr14, ?_, ?_⟩⟩
                      · exact fun j i hji => (w_up_no (by omega)).trans ((w_up_no (by omega)).trans ((w_up_no (by omega)).trans ((w_up_no (by omega)).trans (rfl))))
                      · first | (rw [if_pos (show kd = 1 by omega), if_pos (show kd = 1 by omega)]; exact hgv37) | (rw [if_neg (show ¬ kd = 1 by omega), if_neg (show ¬ kd = 1 by omega)]; exact hgv37)
                  · skip
                    exact absurd c18 (by omega)
                · skip
                  exact absurd c16 (by omega)
              · skip
                exact absurd c12 (by omega)
            · skip
              exact absurd c11 (by omega)
        · skip
          exact absurd c7 (by omega)
      · skip
        exact absurd c6 (by omega)
  · skip
    exact absurd c3 (by omega)
set_option maxHeartbeats 4000000 in
theorem cmn_73_215 {c p h kd ba m en tn ky vy ty : Int} (hP : xP 215 c p h S) (l4 : S 158 4 = 215) (l5 : S 158 5 = 216) (l7 : S 158 7 = kd) (l8 : S 158 8 = ba) (l12 : S 158 12 = en) (hen : 0 ≤ en ∧ en ≤ 1000) (hba : 0 ≤ ba ∧ ba < h) (h72 : S 72 1 = 73) (hm : 0 ≤ m ∧ m < 400) (hso : S 98 m = 1) (ht15 : S 72 15 = tn) (ht0 : 0 ≤ tn ∧ tn ≤ S 152 (-1) ∧ tn ≤ 100000) (ht9 : 16 ≤ S 152 (-1) ∧ S 152 (-1) ≤ 131072 ∨ (16 ≤ S 152 (-1) ∧ S 152 (-1) ≤ 262143 ∧ tn + 2 ≤ S 152 (-1))) (hky : S 217 (h - 1) = ky) (hvy : S 218 (h - 1) = vy) (hkr : -128 ≤ ky ∧ ky ≤ 127) (hvr : -9223372036854775808 ≤ vy ∧ vy ≤ 9223372036854775807) {es : List (Int × Int)} (hmt : S 100 m = ty) (hmf : S 112 m = -1) (htr : 1 ≤ ty ∧ ty ≤ 6) (hel : en = (es.length : Int)) (heb : ba + 1 + en ≤ h) (hes : ∀ i : Nat, i < es.length → S 217 (ba + 1 + (i : Int)) = (es.getD i (0, 0)).1 ∧ S 218 (ba + 1 + (i : Int)) = (es.getD i (0, 0)).2) : wJ (pe_GA xs) wY0 (mS [217, 218, 152]) (d + 6) t_XL_callMember ((pe_at t_XL_callMember.bl 0).getD (0, [])).2 [(0, (2, 158)), (1, (0, m))] [] S (fun o Z => o = .inl none ∧ ((100000 < tn + 2 ∧ w_up S 215 16 99 = Z) ∨ (¬ (100000 < tn + 2) ∧ cmE 215 h c p (h - ba) kd ky vy (anK ty) (anB ty (anS m es)) m en gvR S Z))) := by
  obtain ⟨⟨hC, hI⟩, ⟨bc, bc0, bc1⟩, ⟨bp, bp0, bp1⟩, ⟨bh, bh0, bh1, bh2⟩, bl1, bl2, bl3⟩ := hP
  replace bp : S 220 (c - 1) = p := bp
  replace bh : S 216 2 = h := bh
  replace bh2 : h ≤ S 217 (-1) := bh2
  replace bl1 : S 218 (-1) = S 217 (-1) := bl1
  replace bl2 : 64 ≤ S 217 (-1) := bl2
  replace bl3 : S 217 (-1) ≤ 4095 := bl3
  have hak : 1 ≤ anK ty ∧ anK ty ≤ 2 := by unfold anK; split <;> omega
  have hab : -9223372036854775808 ≤ anB ty (anS m es) ∧ anB ty (anS m es) ≤ 9223372036854775807 := by
    have z1 := land_1 (anS m es)
    have z2 := wb_l2i_rg (anS m es)
    have z3 := w64_rg (anS m es)
    unfold anB
    split
    · omega
    · split <;> omega
  refine wa_aload_n (n := 0) rfl ?_
  refine wb_gf4 158 rfl (wy_pr rfl) wt_158 wf_5_0 (v := 72) wl_158_0 ?_
  refine wb_gf5 72 rfl (wy_pr rfl) wt_72 wf_2_1 (v := 73) (h72) (fun r1 => ?_)
  refine wa_astore_n (n := 2) rfl ?_
  refine wa_aload_n (n := 2) rfl ?_
  refine wb_gf4 73 rfl (wy_pr rfl) wt_73 wf_3_3 (v := 96) wl_73_3 ?_
  refine wa_iconst ?_
  refine wb_aald5 96 1 rfl rfl (wy_pr rfl) wt_96 (by rw [show _ = _ from ((cl_96 hC))]; omega) wl_96_1 ?_
  refine wa_iload_n (n := 1) rfl ?_
  refine wb_iald 98 rfl (wy_pr rfl) wt_98 (n := 400) ((cl_98 hC)) (by omega) (by omega) (v := 1) (hso) (fun r2 => ?_)
  refine wa_iconst ?_
  refine wa_icmpne (w_rg0 (by omega) (by omega)) (w_rg0 (by omega) (by omega)) ⟨_, rfl⟩ (fun c3 => ?_) (fun c3 => ?_)
  · skip
    refine wa_iconst ?_
    refine wa_fall ⟨_, rfl⟩ ?_
    refine wa_istore_n (n := 3) rfl ?_
    refine wa_iload_n (n := 3) rfl ?_
    refine wa_ifne (w_rg0 (by omega) (by omega)) ⟨_, rfl⟩ (fun c4 => ?_) (fun c4 => ?_)
    · skip
      exact absurd c4 (by omega)
    · skip
      refine wa_aload_n (n := 2) rfl ?_
      refine wb_gf4 73 rfl (wy_pr rfl) wt_73 wf_3_3 (v := 96) wl_73_3 ?_
      refine wa_iconst ?_
      refine wb_aald5 96 3 rfl rfl (wy_pr rfl) wt_96 (by rw [show _ = _ from ((cl_96 hC))]; omega) wl_96_3 ?_
      refine wa_iload_n (n := 1) rfl ?_
      refine wb_iald 100 rfl (wy_pr rfl) wt_100 (n := 400) ((cl_100 hC)) (by omega) (by omega) (v := ty) (hmt) (fun r5 => ?_)
      refine wa_bipush (w_rg2 (by omega) (by omega)) ?_
      refine wa_icmpne (w_rg0 (by omega) (by omega)) (w_rg0 (by omega) (by omega)) ⟨_, rfl⟩ (fun c6 => ?_) (fun c6 => ?_)
      · skip
        refine wa_iconst ?_
        refine wa_fall ⟨_, rfl⟩ ?_
        refine wa_istore (n := 4) rfl ?_
        refine wa_iload_n (n := 3) rfl ?_
        refine wa_ifeq (w_rg0 (by omega) (by omega)) ⟨_, rfl⟩ (fun c7 => ?_) (fun c7 => ?_)
        · skip
          refine wa_iconst ?_
          refine wa_fall ⟨_, rfl⟩ ?_
          refine wa_istore (n := 5) rfl ?_
          refine wa_aload_n (n := 0) rfl ?_
          refine wb_gf4 158 rfl (wy_pr rfl) wt_158 wf_5_0 (v := 72) wl_158_0 ?_
          refine wb_gfi 72 rfl (wy_pr rfl) wt_72 wf_2_15 (v := tn) (ht15) (fun r8 => ?_)
          refine wa_iconst ?_
          refine wa_iadd ?_
          refine wb_ki (n := 100000) rfl ?_
          refine wa_icmpgt (w_rg0 (by omega) (by omega)) (w_rg0 (by omega) (by omega)) ⟨_, rfl⟩ (fun c9 => ?_) (fun c9 => ?_)
          · skip
            refine wa_aload_n (n := 0) rfl ?_
            refine wb_gf5 158 rfl (wy_pr rfl) wt_158 wf_5_4 (v := 215) (l4) (fun r10 => ?_)
            refine wa_bipush (w_rg2 (by omega) (by omega)) ?_
            refine wb_pfi 215 rfl (wy_pr rfl) wt_215 wf_8_16 (n := 16) rfl ⟨(by omega), (by omega)⟩ ?_
            refine wa_return rfl ?_
            exact ⟨rfl, Or.inl ⟨by omega, rfl⟩⟩
          · skip
            refine wa_iload_n (n := 3) rfl ?_
            refine wa_ifeq (w_rg0 (by omega) (by omega)) ⟨_, rfl⟩ (fun c11 => ?_) (fun c11 => ?_)
            · skip
              refine wa_iload (n := 4) rfl ?_
              refine wa_ifeq (w_rg0 (by omega) (by omega)) ⟨_, rfl⟩ (fun c12 => ?_) (fun c12 => ?_)
              · skip
                refine wa_aload_n (n := 0) rfl ?_
                refine wb_gf4 158 rfl (wy_pr rfl) wt_158 wf_5_0 (v := 72) wl_158_0 ?_
                refine wa_iload_n (n := 1) rfl ?_
                refine wa_aload_n (n := 0) rfl ?_
                refine wb_gfi 158 rfl (wy_pr rfl) wt_158 wf_5_12 (v := en) (l12) (fun r13 => ?_)
                refine wa_cv 72 rfl (wy_pr rfl) wt_72 (M2 := mS [152]) rfl at_XH_addTrace ⟨_, rfl⟩ rfl rfl ⟨trivial, trivial, trivial, (Or.inr ⟨wy_pr rfl, mS_no rfl⟩), (Or.inr ⟨wy_pr rfl, mS_no rfl⟩), trivial, trivial⟩ trivial (fun _ _ q => mS_sub (by decide) q) (tra (S := S) (m := m) (k := en) hI ⟨by omega, by omega⟩ ⟨by omega, by omega⟩ (by rw [ht15]; exact ht0) (by rw [ht15]; exact ht9)) (fun oq14 Sq14 hp15 q14 => ?_)
                rcases q14 with ⟨rfl, tr14⟩
                show wJ _ _ _ _ _ _ _ _ _ _
                refine wa_aload_n (n := 0) rfl ?_
                refine wa_iconst ?_
                refine wb_pfi 158 rfl (wy_pr rfl) wt_158 wf_5_16 (n := 16) rfl ⟨(by omega), (by omega)⟩ ?_
                refine wa_aload_n (n := 0) rfl ?_
                refine wb_lconst (m := 0) rfl ?_
                refine wb_pfl 158 rfl (wy_pr rfl) wt_158 wf_5_17 (n := 17) rfl ⟨(by omega), (by omega)⟩ ?_
                refine wa_iload_n (n := 3) rfl ?_
                refine wa_ifeq (w_rg0 (by omega) (by omega)) ⟨_, rfl⟩ (fun c16 => ?_) (fun c16 => ?_)
                · skip
                  refine wa_aload_n (n := 2) rfl ?_
                  refine wb_gf4 73 rfl (wy_pr rfl) wt_73 wf_3_3 (v := 96) wl_73_3 ?_
                  refine wa_bipush (w_rg2 (by omega) (by omega)) ?_
                  refine wb_aald5 96 15 rfl rfl (wy_pr rfl) wt_96 (by rw [show _ = _ from ((w_up_slot (by decide)).trans ((w_up_slot (by decide)).trans (((tr14.2.2.2.1 96 (-1) (by decide) (by decide) (by decide) (Or.inl (by decide))).trans ((cl_96 hC))))))]; omega) wl_96_15 ?_
                  refine wa_iload_n (n := 1) rfl ?_
                  refine wb_iald 112 rfl (wy_pr rfl) wt_112 (n := 400) ((w_up_slot (by decide)).trans ((w_up_slot (by decide)).trans (((tr14.2.2.2.1 112 (-1) (by decide) (by decide) (by decide) (Or.inl (by decide))).trans ((cl_112 hC)))))) (by omega) (by omega) (v := (-1)) ((w_up_slot (by decide)).trans ((w_up_slot (by decide)).trans (((tr14.2.2.2.1 112 m (by decide) (by decide) (by decide) (Or.inl (by decide))).trans (hmf))))) (fun r17 => ?_)
                  refine wa_iconst ?_
                  refine wa_icmpeq (w_rg0 (by omega) (by omega)) (w_rg0 (by omega) (by omega)) ⟨_, rfl⟩ (fun c18 => ?_) (fun c18 => ?_)
                  · skip
                    refine wa_aload_n (n := 0) rfl ?_
                    refine wa_iload_n (n := 1) rfl ?_
                    have hf2 : ∀ (j : Nat) (i : Int), j < 4000000 → j ≠ wG → j ≠ 152 → j ≠ 72 → j ≠ 158 → (w_up (w_up Sq14 158 16 0) 158 17 0) j i = S j i := fun j i a b c d e => (w_up_no (fun z => e z.1)).trans ((w_up_no (fun z => e z.1)).trans (tr14.2.2.2.1 j i a b c (Or.inl d)))
                    have el : (w_up (w_up Sq14 158 16 0) 158 17 0) 217 (-1) = S 217 (-1) := (hf2 217 _ (by first | decide | omega) (by first | decide | omega) (by first | decide | omega) (by first | decide | omega) (by first | decide | omega))
                    have el2 : (w_up (w_up Sq14 158 16 0) 158 17 0) 218 (-1) = S 218 (-1) := (hf2 218 _ (by first | decide | omega) (by first | decide | omega) (by first | decide | omega) (by first | decide | omega) (by first | decide | omega))
                    refine wa_cv 158 rfl (wy_pr rfl) wt_158 (M2 := fun _ => False) rfl at_XL_answer ⟨_, rfl⟩ rfl rfl ⟨trivial, trivial, trivial, (Or.inr ⟨wy_pr rfl, fun q => q⟩), (Or.inr ⟨wy_pr rfl, fun q => q⟩), trivial, trivial⟩ trivial (fun _ _ q => False.elim q) (ann_73_215 (S := (w_up (w_up Sq14 158 16 0) 158 17 0)) (m := m) (es := es) (w_CL_up (w_CL_up (CL_tr hC tr14) (by omega)) (by omega)) ((w_up_slot (by decide)).trans ((w_up_slot (by decide)).trans (((tr14.2.2.2.1 72 1 (by decide) (by decide) (by decide) (Or.inr (by decide))).trans (h72))))) ((w_up_at (by decide)).trans ((w_up_at (by decide)).trans (((tr14.2.2.2.1 158 5 (by decide) (by decide) (by decide) (Or.inl (by decide))).trans (l5))))) ((w_up_at (by decide)).trans ((w_up_at (by decide)).trans (((tr14.2.2.2.1 158 8 (by decide) (by decide) (by decide) (Or.inl (by decide))).trans (l8))))) (((w_up_at (by decide)).trans ((w_up_at (by decide)).trans (((tr14.2.2.2.1 158 12 (by decide) (by decide) (by decide) (Or.inl (by decide))).trans (l12))))).trans hel) hm ((w_up_slot (by decide)).trans ((w_up_slot (by decide)).trans (((tr14.2.2.2.1 100 m (by decide) (by decide) (by decide) (Or.inl (by decide))).trans (hmt))))) htr (by rw [el, el2]; exact bl1) (by rw [el]; exact ⟨by omega, by omega, bl3⟩) (fun i hi => ⟨(hf2 217 _ (by decide) (by decide) (by decide) (by decide) (by decide)).trans (hes i hi).1, (hf2 218 _ (by decide) (by decide) (by decide) (by decide) (by decide)).trans (hes i hi).2⟩)) (fun oq19 Sq19 hp20 q19 => ?_)
                    rcases q19 with ⟨rfl, rfl⟩
                    show wJ _ _ _ _ _ _ _ _ _ _
                    refine wa_fall ⟨_, rfl⟩ ?_
                    refine wa_aload_n (n := 0) rfl ?_
                    refine wb_gfi 158 rfl (wy_pr rfl) wt_158 wf_5_7 (v := kd) ((w_up_at (by decide)).trans ((w_up_at (by decide)).trans ((w_up_at (by decide)).trans ((w_up_at (by decide)).trans (((tr14.2.2.2.1 158 7 (by decide) (by decide) (by decide) (Or.inl (by decide))).trans (l7))))))) (fun r21 => ?_)
                    refine wa_iconst ?_
                    refine wa_icmpne (w_rg0 (by omega) (by omega)) (w_rg0 (by omega) (by omega)) ⟨_, rfl⟩ (fun c22 => ?_) (fun c22 => ?_)
                    · skip
                      refine wa_aload_n (n := 0) rfl ?_
                      refine wa_aload_n (n := 0) rfl ?_
                      refine wb_gfi 158 rfl (wy_pr rfl) wt_158 wf_5_16 (v := (anK ty)) ((w_up_at (by decide)).trans (w_up_same _ _ _ _)) (fun r23 => ?_)
                      refine wa_aload_n (n := 0) rfl ?_
                      refine wb_gfl 158 rfl (wy_pr rfl) wt_158 wf_5_17 (v := (anB ty (anS m es))) (w_up_same _ _ _ _) (fun r24 => ?_)
                      refine wa_cv 158 rfl (wy_pr rfl) wt_158 (M2 := mS [217, 218]) rfl at_XL_giveValue ⟨_, rfl⟩ rfl rfl ⟨trivial, trivial, trivial, (Or.inr ⟨wy_pr rfl, mS_no rfl⟩), (Or.inr ⟨wy_pr rfl, mS_no rfl⟩), trivial, trivial⟩ trivial (fun _ _ q => mS_sub (by decide) q) (glx_215 (S := (w_up (w_up (w_up (w_up Sq14 158 16 0) 158 17 0) 158 16 (anK ty)) 158 17 (anB ty (anS m es)))) (k := (anK ty)) (v := (anB ty (anS m es))) (h := h) (c := c) (p := p) (ba := ba) (w_CL_up (w_CL_up (w_CL_up (w_CL_up (CL_tr hC tr14) (by omega)) (by omega)) (by omega)) (by omega)) (gI_up (gI_up (gI_up (gI_up tr14.2.2.2.2.2.1 (by omega) (by omega) (by omega)) (by omega) (by omega) (by omega)) (by omega) (by omega) (by omega)) (by omega) (by omega) (by omega)) ((w_up_at (by decide)).trans ((w_up_at (by decide)).trans ((w_up_at (by decide)).trans ((w_up_at (by decide)).trans (((tr14.2.2.2.1 158 4 (by decide) (by decide) (by decide) (Or.inl (by decide))).trans (l4))))))) ((w_up_at (by decide)).trans ((w_up_at (by decide)).trans ((w_up_at (by decide)).trans ((w_up_at (by decide)).trans (((tr14.2.2.2.1 158 5 (by decide) (by decide) (by decide) (Or.inl (by decide))).trans (l5))))))) ((w_up_at (by decide)).trans ((w_up_at (by decide)).trans ((w_up_at (by decide)).trans ((w_up_at (by decide)).trans (((tr14.2.2.2.1 158 8 (by decide) (by decide) (by decide) (Or.inl (by decide))).trans (l8))))))) ((w_up_slot (by decide)).trans ((w_up_slot (by decide)).trans ((w_up_slot (by decide)).trans ((w_up_slot (by decide)).trans (((tr14.2.2.2.1 215 4 (by decide) (by decide) (by decide) (Or.inl (by decide))).trans (bc))))))) ((w_up_slot (by decide)).trans ((w_up_slot (by decide)).trans ((w_up_slot (by decide)).trans ((w_up_slot (by decide)).trans (((tr14.2.2.2.1 220 (c - 1) (by decide) (by decide) (by decide) (Or.inl (by decide))).trans (bp))))))) ((((w_up_slot (by decide)).trans ((w_up_slot (by decide)).trans ((w_up_slot (by decide)).trans ((w_up_slot (by decide)).trans (((tr14.2.2.2.1 218 (-1) (by decide) (by decide) (by decide) (Or.inl (by decide))).trans (bl1)))))))).trans (((w_up_slot (by decide)).trans ((w_up_slot (by decide)).trans ((w_up_slot (by decide)).trans ((w_up_slot (by decide)).trans (((tr14.2.2.2.1 217 (-1) (by decide) (by decide) (by decide) (Or.inl (by decide))).trans (rfl)))))))).symm) (by have e : (w_up (w_up (w_up (w_up Sq14 158 16 0) 158 17 0) 158 16 (anK ty)) 158 17 (anB ty (anS m es))) 217 (-1) = S 217 (-1) := ((w_up_slot (by decide)).trans ((w_up_slot (by decide)).trans ((w_up_slot (by decide)).trans ((w_up_slot (by decide)).trans (((tr14.2.2.2.1 217 (-1) (by decide) (by decide) (by decide) (Or.inl (by decide))).trans (rfl))))))); rw [e]; exact ⟨bl2, bl3⟩) (by have e : (w_up (w_up (w_up (w_up Sq14 158 16 0) 158 17 0) 158 16 (anK ty)) 158 17 (anB ty (anS m es))) 217 (-1) = S 217 (-1) := ((w_up_slot (by decide)).trans ((w_up_slot (by decide)).trans ((w_up_slot (by decide)).trans ((w_up_slot (by decide)).trans (((tr14.2.2.2.1 217 (-1) (by decide) (by decide) (by decide) (Or.inl (by decide))).trans (rfl))))))); omega) ⟨by omega, by omega⟩ ⟨by omega, by omega⟩ ⟨by omega, by omega⟩ ⟨by omega, by omega⟩) (fun oq25 Sq25 hp26 q25 => ?_)
                      rcases q25 with ⟨rfl, hgv25⟩
                      show wJ _ _ _ _ _ _ _ _ _ _
                      refine wa_return rfl ?_
                      refine ⟨rfl, Or.inr ⟨by omega, Sq14, (w_up (w_up (w_up (w_up Sq14 158 16 0) 158 17 0) 158 16 (anK ty)) 158 17 (anB ty (anS m es))), tr14, ?_, ?_⟩⟩
                      · exact fun j i hji => (w_up_no (by omega)).trans ((w_up_no (by omega)).trans ((w_up_no (by omega)).trans ((w_up_no (by omega)).trans (rfl))))
                      · first | (rw [if_pos (show kd = 1 by omega), if_pos (show kd = 1 by omega)]; exact hgv25) | (rw [if_neg (show ¬ kd = 1 by omega), if_neg (show ¬ kd = 1 by omega)]; exact hgv25)
                    · skip
                      refine wa_aload_n (n := 0) rfl ?_
                      refine wa_aload_n (n := 0) rfl ?_
                      refine wb_gf5 158 rfl (wy_pr rfl) wt_158 wf_5_5 (v := 216) ((w_up_at (by decide)).trans ((w_up_at (by decide)).trans ((w_up_at (by decide)).trans ((w_up_at (by decide)).trans (((tr14.2.2.2.1 158 5 (by decide) (by decide) (by decide) (Or.inl (by decide))).trans (l5))))))) (fun r27 => ?_)
                      refine wb_gf4 216 rfl (wy_pr rfl) wt_216 wf_7_0 (v := 217) wl_216_0 ?_
                      refine wa_aload_n (n := 0) rfl ?_
                      refine wb_gf5 158 rfl (wy_pr rfl) wt_158 wf_5_5 (v := 216) ((w_up_at (by decide)).trans ((w_up_at (by decide)).trans ((w_up_at (by decide)).trans ((w_up_at (by decide)).trans (((tr14.2.2.2.1 158 5 (by decide) (by decide) (by decide) (Or.inl (by decide))).trans (l5))))))) (fun r28 => ?_)
                      refine wb_gfi 216 rfl (wy_pr rfl) wt_216 wf_7_2 (v := h) ((w_up_slot (by decide)).trans ((w_up_slot (by decide)).trans ((w_up_slot (by decide)).trans ((w_up_slot (by decide)).trans (((tr14.2.2.2.1 216 2 (by decide) (by decide) (by decide) (Or.inl (by decide))).trans (bh))))))) (fun r29 => ?_)
                      refine wa_iconst ?_
                      refine wa_isub ?_
                      refine wb_bald 217 rfl (wy_pr rfl) wt_217 (n := (S 217 (-1))) ((w_up_slot (by decide)).trans ((w_up_slot (by decide)).trans ((w_up_slot (by decide)).trans ((w_up_slot (by decide)).trans (((tr14.2.2.2.1 217 (-1) (by decide) (by decide) (by decide) (Or.inl (by decide))).trans (rfl))))))) (by omega) (by omega) (v := ky) ((w_up_slot (by decide)).trans ((w_up_slot (by decide)).trans ((w_up_slot (by decide)).trans ((w_up_slot (by decide)).trans (((tr14.2.2.2.1 217 (h - 1) (by decide) (by decide) (by decide) (Or.inl (by decide))).trans (hky))))))) (fun r30 => ?_)
                      refine wb_pfi 158 rfl (wy_pr rfl) wt_158 wf_5_16 (n := 16) rfl ⟨(by omega), (by omega)⟩ ?_
                      refine wa_aload_n (n := 0) rfl ?_
                      refine wa_aload_n (n := 0) rfl ?_
                      refine wb_gf5 158 rfl (wy_pr rfl) wt_158 wf_5_5 (v := 216) ((w_up_at (by decide)).trans ((w_up_at (by decide)).trans ((w_up_at (by decide)).trans ((w_up_at (by decide)).trans ((w_up_at (by decide)).trans (((tr14.2.2.2.1 158 5 (by decide) (by decide) (by decide) (Or.inl (by decide))).trans (l5)))))))) (fun r31 => ?_)
                      refine wb_gf4 216 rfl (wy_pr rfl) wt_216 wf_7_1 (v := 218) wl_216_1 ?_
                      refine wa_aload_n (n := 0) rfl ?_
                      refine wb_gf5 158 rfl (wy_pr rfl) wt_158 wf_5_5 (v := 216) ((w_up_at (by decide)).trans ((w_up_at (by decide)).trans ((w_up_at (by decide)).trans ((w_up_at (by decide)).trans ((w_up_at (by decide)).trans (((tr14.2.2.2.1 158 5 (by decide) (by decide) (by decide) (Or.inl (by decide))).trans (l5)))))))) (fun r32 => ?_)
                      refine wb_gfi 216 rfl (wy_pr rfl) wt_216 wf_7_2 (v := h) ((w_up_slot (by decide)).trans ((w_up_slot (by decide)).trans ((w_up_slot (by decide)).trans ((w_up_slot (by decide)).trans ((w_up_slot (by decide)).trans (((tr14.2.2.2.1 216 2 (by decide) (by decide) (by decide) (Or.inl (by decide))).trans (bh)))))))) (fun r33 => ?_)
                      refine wa_iconst ?_
                      refine wa_isub ?_
                      refine wb_lald 218 rfl (wy_pr rfl) wt_218 (n := (S 217 (-1))) ((w_up_slot (by decide)).trans ((w_up_slot (by decide)).trans ((w_up_slot (by decide)).trans ((w_up_slot (by decide)).trans ((w_up_slot (by decide)).trans (((tr14.2.2.2.1 218 (-1) (by decide) (by decide) (by decide) (Or.inl (by decide))).trans (bl1)))))))) (by omega) (by omega) (v := vy) ((w_up_slot (by decide)).trans ((w_up_slot (by decide)).trans ((w_up_slot (by decide)).trans ((w_up_slot (by decide)).trans ((w_up_slot (by decide)).trans (((tr14.2.2.2.1 218 (h - 1) (by decide) (by decide) (by decide) (Or.inl (by decide))).trans (hvy)))))))) (fun r34 => ?_)
                      refine wb_pfl 158 rfl (wy_pr rfl) wt_158 wf_5_17 (n := 17) rfl ⟨(by omega), (by omega)⟩ ?_
                      refine wa_fall ⟨_, rfl⟩ ?_
                      refine wa_aload_n (n := 0) rfl ?_
                      refine wa_aload_n (n := 0) rfl ?_
                      refine wb_gfi 158 rfl (wy_pr rfl) wt_158 wf_5_16 (v := ky) ((w_up_at (by decide)).trans (w_up_same _ _ _ _)) (fun r35 => ?_)
                      refine wa_aload_n (n := 0) rfl ?_
                      refine wb_gfl 158 rfl (wy_pr rfl) wt_158 wf_5_17 (v := vy) (w_up_same _ _ _ _) (fun r36 => ?_)
                      refine wa_cv 158 rfl (wy_pr rfl) wt_158 (M2 := mS [217, 218]) rfl at_XL_giveValue ⟨_, rfl⟩ rfl rfl ⟨trivial, trivial, trivial, (Or.inr ⟨wy_pr rfl, mS_no rfl⟩), (Or.inr ⟨wy_pr rfl, mS_no rfl⟩), trivial, trivial⟩ trivial (fun _ _ q => mS_sub (by decide) q) (glx_215 (S := (w_up (w_up (w_up (w_up (w_up (w_up Sq14 158 16 0) 158 17 0) 158 16 (anK ty)) 158 17 (anB ty (anS m es))) 158 16 ky) 158 17 vy)) (k := ky) (v := vy) (h := h) (c := c) (p := p) (ba := ba) (w_CL_up (w_CL_up (w_CL_up (w_CL_up (w_CL_up (w_CL_up (CL_tr hC tr14) (by omega)) (by omega)) (by omega)) (by omega)) (by omega)) (by omega)) (gI_up (gI_up (gI_up (gI_up (gI_up (gI_up tr14.2.2.2.2.2.1 (by omega) (by omega) (by omega)) (by omega) (by omega) (by omega)) (by omega) (by omega) (by omega)) (by omega) (by omega) (by omega)) (by omega) (by omega) (by omega)) (by omega) (by omega) (by omega)) ((w_up_at (by decide)).trans ((w_up_at (by decide)).trans ((w_up_at (by decide)).trans ((w_up_at (by decide)).trans ((w_up_at (by decide)).trans ((w_up_at (by decide)).trans (((tr14.2.2.2.1 158 4 (by decide) (by decide) (by decide) (Or.inl (by decide))).trans (l4))))))))) ((w_up_at (by decide)).trans ((w_up_at (by decide)).trans ((w_up_at (by decide)).trans ((w_up_at (by decide)).trans ((w_up_at (by decide)).trans ((w_up_at (by decide)).trans (((tr14.2.2.2.1 158 5 (by decide) (by decide) (by decide) (Or.inl (by decide))).trans (l5))))))))) ((w_up_at (by decide)).trans ((w_up_at (by decide)).trans ((w_up_at (by decide)).trans ((w_up_at (by decide)).trans ((w_up_at (by decide)).trans ((w_up_at (by decide)).trans (((tr14.2.2.2.1 158 8 (by decide) (by decide) (by decide) (Or.inl (by decide))).trans (l8))))))))) ((w_up_slot (by decide)).trans ((w_up_slot (by decide)).trans ((w_up_slot (by decide)).trans ((w_up_slot (by decide)).trans ((w_up_slot (by decide)).trans ((w_up_slot (by decide)).trans (((tr14.2.2.2.1 215 4 (by decide) (by decide) (by decide) (Or.inl (by decide))).trans (bc))))))))) ((w_up_slot (by decide)).trans ((w_up_slot (by decide)).trans ((w_up_slot (by decide)).trans ((w_up_slot (by decide)).trans ((w_up_slot (by decide)).trans ((w_up_slot (by decide)).trans (((tr14.2.2.2.1 220 (c - 1) (by decide) (by decide) (by decide) (Or.inl (by decide))).trans (bp))))))))) ((((w_up_slot (by decide)).trans ((w_up_slot (by decide)).trans ((w_up_slot (by decide)).trans ((w_up_slot (by decide)).trans ((w_up_slot (by decide)).trans ((w_up_slot (by decide)).trans (((tr14.2.2.2.1 218 (-1) (by decide) (by decide) (by decide) (Or.inl (by decide))).trans (bl1)))))))))).trans (((w_up_slot (by decide)).trans ((w_up_slot (by decide)).trans ((w_up_slot (by decide)).trans ((w_up_slot (by decide)).trans ((w_up_slot (by decide)).trans ((w_up_slot (by decide)).trans (((tr14.2.2.2.1 217 (-1) (by decide) (by decide) (by decide) (Or.inl (by decide))).trans (rfl)))))))))).symm) (by have e : (w_up (w_up (w_up (w_up (w_up (w_up Sq14 158 16 0) 158 17 0) 158 16 (anK ty)) 158 17 (anB ty (anS m es))) 158 16 ky) 158 17 vy) 217 (-1) = S 217 (-1) := ((w_up_slot (by decide)).trans ((w_up_slot (by decide)).trans ((w_up_slot (by decide)).trans ((w_up_slot (by decide)).trans ((w_up_slot (by decide)).trans ((w_up_slot (by decide)).trans (((tr14.2.2.2.1 217 (-1) (by decide) (by decide) (by decide) (Or.inl (by decide))).trans (rfl))))))))); rw [e]; exact ⟨bl2, bl3⟩) (by have e : (w_up (w_up (w_up (w_up (w_up (w_up Sq14 158 16 0) 158 17 0) 158 16 (anK ty)) 158 17 (anB ty (anS m es))) 158 16 ky) 158 17 vy) 217 (-1) = S 217 (-1) := ((w_up_slot (by decide)).trans ((w_up_slot (by decide)).trans ((w_up_slot (by decide)).trans ((w_up_slot (by decide)).trans ((w_up_slot (by decide)).trans ((w_up_slot (by decide)).trans (((tr14.2.2.2.1 217 (-1) (by decide) (by decide) (by decide) (Or.inl (by decide))).trans (rfl))))))))); omega) ⟨by omega, by omega⟩ ⟨by omega, by omega⟩ ⟨by omega, by omega⟩ ⟨by omega, by omega⟩) (fun oq37 Sq37 hp38 q37 => ?_)
                      rcases q37 with ⟨rfl, hgv37⟩
                      show wJ _ _ _ _ _ _ _ _ _ _
                      refine wa_return rfl ?_
                      refine ⟨rfl, Or.inr ⟨by omega, Sq14, (w_up (w_up (w_up (w_up (w_up (w_up Sq14 158 16 0) 158 17 0) 158 16 (anK ty)) 158 17 (anB ty (anS m es))) 158 16 ky) 158 17 vy), tr14, ?_, ?_⟩⟩
                      · exact fun j i hji => (w_up_no (by omega)).trans ((w_up_no (by omega)).trans ((w_up_no (by omega)).trans ((w_up_no (by omega)).trans ((w_up_no (by omega)).trans ((w_up_no (by omega)).trans (rfl))))))
                      · first | (rw [if_pos (show kd = 1 by omega), if_pos (show kd = 1 by omega)]; exact hgv37) | (rw [if_neg (show ¬ kd = 1 by omega), if_neg (show ¬ kd = 1 by omega)]; exact hgv37)
                  · skip
                    exact absurd c18 (by omega)
                · skip
                  exact absurd c16 (by omega)
              · skip
                exact absurd c12 (by omega)
            · skip
              exact absurd c11 (by omega)
        · skip
          exact absurd c7 (by omega)
      · skip
        exact absurd c6 (by omega)
  · skip
    exact absurd c3 (by omega)
set_option maxHeartbeats 4000000 in
theorem cmg1_73_215 {c p h kd ba m en tn ky vy fl fi gb ty vk vb : Int} (hP : xP 215 c p h S) (l4 : S 158 4 = 215) (l5 : S 158 5 = 216) (l7 : S 158 7 = kd) (l8 : S 158 8 = ba) (l12 : S 158 12 = en) (hen : 0 ≤ en ∧ en ≤ 1000) (hba : 0 ≤ ba ∧ ba < h) (h72 : S 72 1 = 73) (hm : 0 ≤ m ∧ m < 400) (hso : S 98 m = 1) (ht15 : S 72 15 = tn) (ht0 : 0 ≤ tn ∧ tn ≤ S 152 (-1) ∧ tn ≤ 100000) (ht9 : 16 ≤ S 152 (-1) ∧ S 152 (-1) ≤ 131072 ∨ (16 ≤ S 152 (-1) ∧ S 152 (-1) ≤ 262143 ∧ tn + 2 ≤ S 152 (-1))) (hky : S 217 (h - 1) = ky) (hvy : S 218 (h - 1) = vy) (hkr : -128 ≤ ky ∧ ky ≤ 127) (hvr : -9223372036854775808 ≤ vy ∧ vy ≤ 9223372036854775807) (hmf : S 112 m = fl) (hfl : 0 ≤ fl ∧ fl < 400) (hstt : S 99 fl = 1) (hfi : S 112 fl = fi) (l10 : S 158 10 = gb) (hmt : S 100 m = ty) (hmc : S 101 m = 0) (hrl : S 118 (-1) = S 117 (-1)) (hrb : 0 ≤ fi ∧ fi < S 117 (-1) ∧ S 117 (-1) ≤ 8388608) (hvk : S 117 fi = vk) (hvb : S 118 fi = vb) (hvr2 : -128 ≤ vk ∧ vk ≤ 127) (hvs : -9223372036854775808 ≤ vb ∧ vb ≤ 9223372036854775807) : wJ (pe_GA xs) wY0 (mS [217, 218, 152]) (d + 6) t_XL_callMember ((pe_at t_XL_callMember.bl 0).getD (0, [])).2 [(0, (2, 158)), (1, (0, m))] [] S (fun o Z => o = .inl none ∧ ((100000 < tn + 2 ∧ w_up S 215 16 99 = Z) ∨ (¬ (100000 < tn + 2) ∧ cmE 215 h c p (h - ba) kd ky vy vk vb m en gvR S Z))) := by
  obtain ⟨⟨hC, hI⟩, ⟨bc, bc0, bc1⟩, ⟨bp, bp0, bp1⟩, ⟨bh, bh0, bh1, bh2⟩, bl1, bl2, bl3⟩ := hP
  replace bp : S 220 (c - 1) = p := bp
  replace bh : S 216 2 = h := bh
  replace bh2 : h ≤ S 217 (-1) := bh2
  replace bl1 : S 218 (-1) = S 217 (-1) := bl1
  replace bl2 : 64 ≤ S 217 (-1) := bl2
  replace bl3 : S 217 (-1) ≤ 4095 := bl3
  refine wa_aload_n (n := 0) rfl ?_
  refine wb_gf4 158 rfl (wy_pr rfl) wt_158 wf_5_0 (v := 72) wl_158_0 ?_
  refine wb_gf5 72 rfl (wy_pr rfl) wt_72 wf_2_1 (v := 73) (h72) (fun r1 => ?_)
  refine wa_astore_n (n := 2) rfl ?_
  refine wa_aload_n (n := 2) rfl ?_
  refine wb_gf4 73 rfl (wy_pr rfl) wt_73 wf_3_3 (v := 96) wl_73_3 ?_
  refine wa_iconst ?_
  refine wb_aald5 96 1 rfl rfl (wy_pr rfl) wt_96 (by rw [show _ = _ from ((cl_96 hC))]; omega) wl_96_1 ?_
  refine wa_iload_n (n := 1) rfl ?_
  refine wb_iald 98 rfl (wy_pr rfl) wt_98 (n := 400) ((cl_98 hC)) (by omega) (by omega) (v := 1) (hso) (fun r2 => ?_)
  refine wa_iconst ?_
  refine wa_icmpne (w_rg0 (by omega) (by omega)) (w_rg0 (by omega) (by omega)) ⟨_, rfl⟩ (fun c3 => ?_) (fun c3 => ?_)
  · skip
    refine wa_iconst ?_
    refine wa_fall ⟨_, rfl⟩ ?_
    refine wa_istore_n (n := 3) rfl ?_
    refine wa_iload_n (n := 3) rfl ?_
    refine wa_ifne (w_rg0 (by omega) (by omega)) ⟨_, rfl⟩ (fun c4 => ?_) (fun c4 => ?_)
    · skip
      exact absurd c4 (by omega)
    · skip
      refine wa_aload_n (n := 2) rfl ?_
      refine wb_gf4 73 rfl (wy_pr rfl) wt_73 wf_3_3 (v := 96) wl_73_3 ?_
      refine wa_iconst ?_
      refine wb_aald5 96 3 rfl rfl (wy_pr rfl) wt_96 (by rw [show _ = _ from ((cl_96 hC))]; omega) wl_96_3 ?_
      refine wa_iload_n (n := 1) rfl ?_
      refine wb_iald 100 rfl (wy_pr rfl) wt_100 (n := 400) ((cl_100 hC)) (by omega) (by omega) (v := ty) (hmt) (fun r5 => ?_)
      refine wa_bipush (w_rg2 (by omega) (by omega)) ?_
      refine wa_icmpne (w_rg0 (by omega) (by omega)) (w_rg0 (by omega) (by omega)) ⟨_, rfl⟩ (fun c6 => ?_) (fun c6 => ?_)
      · skip
        refine wa_iconst ?_
        refine wa_fall ⟨_, rfl⟩ ?_
        refine wa_istore (n := 4) rfl ?_
        refine wa_iload_n (n := 3) rfl ?_
        refine wa_ifeq (w_rg0 (by omega) (by omega)) ⟨_, rfl⟩ (fun c7 => ?_) (fun c7 => ?_)
        · skip
          refine wa_iconst ?_
          refine wa_fall ⟨_, rfl⟩ ?_
          refine wa_istore (n := 5) rfl ?_
          refine wa_aload_n (n := 0) rfl ?_
          refine wb_gf4 158 rfl (wy_pr rfl) wt_158 wf_5_0 (v := 72) wl_158_0 ?_
          refine wb_gfi 72 rfl (wy_pr rfl) wt_72 wf_2_15 (v := tn) (ht15) (fun r8 => ?_)
          refine wa_iconst ?_
          refine wa_iadd ?_
          refine wb_ki (n := 100000) rfl ?_
          refine wa_icmpgt (w_rg0 (by omega) (by omega)) (w_rg0 (by omega) (by omega)) ⟨_, rfl⟩ (fun c9 => ?_) (fun c9 => ?_)
          · skip
            refine wa_aload_n (n := 0) rfl ?_
            refine wb_gf5 158 rfl (wy_pr rfl) wt_158 wf_5_4 (v := 215) (l4) (fun r10 => ?_)
            refine wa_bipush (w_rg2 (by omega) (by omega)) ?_
            refine wb_pfi 215 rfl (wy_pr rfl) wt_215 wf_8_16 (n := 16) rfl ⟨(by omega), (by omega)⟩ ?_
            refine wa_return rfl ?_
            exact ⟨rfl, Or.inl ⟨by omega, rfl⟩⟩
          · skip
            refine wa_iload_n (n := 3) rfl ?_
            refine wa_ifeq (w_rg0 (by omega) (by omega)) ⟨_, rfl⟩ (fun c11 => ?_) (fun c11 => ?_)
            · skip
              refine wa_iload (n := 4) rfl ?_
              refine wa_ifeq (w_rg0 (by omega) (by omega)) ⟨_, rfl⟩ (fun c12 => ?_) (fun c12 => ?_)
              · skip
                refine wa_aload_n (n := 0) rfl ?_
                refine wb_gf4 158 rfl (wy_pr rfl) wt_158 wf_5_0 (v := 72) wl_158_0 ?_
                refine wa_iload_n (n := 1) rfl ?_
                refine wa_aload_n (n := 0) rfl ?_
                refine wb_gfi 158 rfl (wy_pr rfl) wt_158 wf_5_12 (v := en) (l12) (fun r13 => ?_)
                refine wa_cv 72 rfl (wy_pr rfl) wt_72 (M2 := mS [152]) rfl at_XH_addTrace ⟨_, rfl⟩ rfl rfl ⟨trivial, trivial, trivial, (Or.inr ⟨wy_pr rfl, mS_no rfl⟩), (Or.inr ⟨wy_pr rfl, mS_no rfl⟩), trivial, trivial⟩ trivial (fun _ _ q => mS_sub (by decide) q) (tra (S := S) (m := m) (k := en) hI ⟨by omega, by omega⟩ ⟨by omega, by omega⟩ (by rw [ht15]; exact ht0) (by rw [ht15]; exact ht9)) (fun oq14 Sq14 hp15 q14 => ?_)
                rcases q14 with ⟨rfl, tr14⟩
                show wJ _ _ _ _ _ _ _ _ _ _
                refine wa_aload_n (n := 0) rfl ?_
                refine wa_iconst ?_
                refine wb_pfi 158 rfl (wy_pr rfl) wt_158 wf_5_16 (n := 16) rfl ⟨(by omega), (by omega)⟩ ?_
                refine wa_aload_n (n := 0) rfl ?_
                refine wb_lconst (m := 0) rfl ?_
                refine wb_pfl 158 rfl (wy_pr rfl) wt_158 wf_5_17 (n := 17) rfl ⟨(by omega), (by omega)⟩ ?_
                refine wa_iload_n (n := 3) rfl ?_
                refine wa_ifeq (w_rg0 (by omega) (by omega)) ⟨_, rfl⟩ (fun c16 => ?_) (fun c16 => ?_)
                · skip
                  refine wa_aload_n (n := 2) rfl ?_
                  refine wb_gf4 73 rfl (wy_pr rfl) wt_73 wf_3_3 (v := 96) wl_73_3 ?_
                  refine wa_bipush (w_rg2 (by omega) (by omega)) ?_
                  refine wb_aald5 96 15 rfl rfl (wy_pr rfl) wt_96 (by rw [show _ = _ from ((w_up_slot (by decide)).trans ((w_up_slot (by decide)).trans (((tr14.2.2.2.1 96 (-1) (by decide) (by decide) (by decide) (Or.inl (by decide))).trans ((cl_96 hC))))))]; omega) wl_96_15 ?_
                  refine wa_iload_n (n := 1) rfl ?_
                  refine wb_iald 112 rfl (wy_pr rfl) wt_112 (n := 400) ((w_up_slot (by decide)).trans ((w_up_slot (by decide)).trans (((tr14.2.2.2.1 112 (-1) (by decide) (by decide) (by decide) (Or.inl (by decide))).trans ((cl_112 hC)))))) (by omega) (by omega) (v := fl) ((w_up_slot (by decide)).trans ((w_up_slot (by decide)).trans (((tr14.2.2.2.1 112 m (by decide) (by decide) (by decide) (Or.inl (by decide))).trans (hmf))))) (fun r17 => ?_)
                  refine wa_iconst ?_
                  refine wa_icmpeq (w_rg0 (by omega) (by omega)) (w_rg0 (by omega) (by omega)) ⟨_, rfl⟩ (fun c18 => ?_) (fun c18 => ?_)
                  · skip
                    exact absurd c18 (by omega)
                  · skip
                    refine wa_aload_n (n := 0) rfl ?_
                    refine wa_iload_n (n := 1) rfl ?_
                    refine wa_aload_n (n := 2) rfl ?_
                    refine wb_gf4 73 rfl (wy_pr rfl) wt_73 wf_3_3 (v := 96) wl_73_3 ?_
                    refine wa_bipush (w_rg2 (by omega) (by omega)) ?_
                    refine wb_aald5 96 15 rfl rfl (wy_pr rfl) wt_96 (by rw [show _ = _ from ((w_up_slot (by decide)).trans ((w_up_slot (by decide)).trans (((tr14.2.2.2.1 96 (-1) (by decide) (by decide) (by decide) (Or.inl (by decide))).trans ((cl_96 hC))))))]; omega) wl_96_15 ?_
                    refine wa_iload_n (n := 1) rfl ?_
                    refine wb_iald 112 rfl (wy_pr rfl) wt_112 (n := 400) ((w_up_slot (by decide)).trans ((w_up_slot (by decide)).trans (((tr14.2.2.2.1 112 (-1) (by decide) (by decide) (by decide) (Or.inl (by decide))).trans ((cl_112 hC)))))) (by omega) (by omega) (v := fl) ((w_up_slot (by decide)).trans ((w_up_slot (by decide)).trans (((tr14.2.2.2.1 112 m (by decide) (by decide) (by decide) (Or.inl (by decide))).trans (hmf))))) (fun r19 => ?_)
                    have hf2 : ∀ (j : Nat) (i : Int), j < 4000000 → j ≠ wG → j ≠ 152 → j ≠ 72 → j ≠ 158 → (w_up (w_up Sq14 158 16 0) 158 17 0) j i = S j i := fun j i a b c d e => (w_up_no (fun z => e z.1)).trans ((w_up_no (fun z => e z.1)).trans (tr14.2.2.2.1 j i a b c (Or.inl d)))
                    have el : (w_up (w_up Sq14 158 16 0) 158 17 0) 117 (-1) = S 117 (-1) := (hf2 117 _ (by first | decide | omega) (by first | decide | omega) (by first | decide | omega) (by first | decide | omega) (by first | decide | omega))
                    have el2 : (w_up (w_up Sq14 158 16 0) 158 17 0) 118 (-1) = S 118 (-1) := (hf2 118 _ (by first | decide | omega) (by first | decide | omega) (by first | decide | omega) (by first | decide | omega) (by first | decide | omega))
                    refine wa_cv 158 rfl (wy_pr rfl) wt_158 (M2 := fun _ => False) rfl at_XL_useField ⟨_, rfl⟩ rfl rfl ⟨trivial, trivial, trivial, (Or.inr ⟨wy_pr rfl, fun q => q⟩), (Or.inr ⟨wy_pr rfl, fun q => q⟩), trivial, trivial⟩ trivial (fun _ _ q => False.elim q) (usg1_73_215 (S := (w_up (w_up Sq14 158 16 0) 158 17 0)) (m := m) (f := fl) (w_CL_up (w_CL_up (CL_tr hC tr14) (by omega)) (by omega)) ((w_up_slot (by decide)).trans ((w_up_slot (by decide)).trans (((tr14.2.2.2.1 72 1 (by decide) (by decide) (by decide) (Or.inr (by decide))).trans (h72))))) ((w_up_at (by decide)).trans ((w_up_at (by decide)).trans (((tr14.2.2.2.1 158 5 (by decide) (by decide) (by decide) (Or.inl (by decide))).trans (l5))))) ((w_up_at (by decide)).trans ((w_up_at (by decide)).trans (((tr14.2.2.2.1 158 8 (by decide) (by decide) (by decide) (Or.inl (by decide))).trans (l8))))) (((w_up_at (by decide)).trans ((w_up_at (by decide)).trans ((tr14.2.2.2.1 158 10 (by decide) (by decide) (by decide) (Or.inl (by decide)))))).trans l10) hm hfl ((hf2 99 _ (by decide) (by decide) (by decide) (by decide) (by decide)).trans hstt) ((hf2 112 _ (by decide) (by decide) (by decide) (by decide) (by decide)).trans hfi) (by rw [el, el2]; exact hrl) (by rw [el]; exact hrb) ((hf2 101 _ (by decide) (by decide) (by decide) (by decide) (by decide)).trans hmc) ((hf2 117 _ (by decide) (by decide) (by decide) (by decide) (by decide)).trans hvk) ((hf2 118 _ (by decide) (by decide) (by decide) (by decide) (by decide)).trans hvb)) (fun oq20 Sq20 hp21 q20 => ?_)
                    rcases q20 with ⟨rfl, rfl⟩
                    show wJ _ _ _ _ _ _ _ _ _ _
                    refine wa_goto ⟨_, rfl⟩ ?_
                    refine wa_aload_n (n := 0) rfl ?_
                    refine wb_gfi 158 rfl (wy_pr rfl) wt_158 wf_5_7 (v := kd) ((w_up_at (by decide)).trans ((w_up_at (by decide)).trans ((w_up_at (by decide)).trans ((w_up_at (by decide)).trans (((tr14.2.2.2.1 158 7 (by decide) (by decide) (by decide) (Or.inl (by decide))).trans (l7))))))) (fun r22 => ?_)
                    refine wa_iconst ?_
                    refine wa_icmpne (w_rg0 (by omega) (by omega)) (w_rg0 (by omega) (by omega)) ⟨_, rfl⟩ (fun c23 => ?_) (fun c23 => ?_)
                    · skip
                      refine wa_aload_n (n := 0) rfl ?_
                      refine wa_aload_n (n := 0) rfl ?_
                      refine wb_gfi 158 rfl (wy_pr rfl) wt_158 wf_5_16 (v := vk) ((w_up_at (by decide)).trans (w_up_same _ _ _ _)) (fun r24 => ?_)
                      refine wa_aload_n (n := 0) rfl ?_
                      refine wb_gfl 158 rfl (wy_pr rfl) wt_158 wf_5_17 (v := vb) (w_up_same _ _ _ _) (fun r25 => ?_)
                      refine wa_cv 158 rfl (wy_pr rfl) wt_158 (M2 := mS [217, 218]) rfl at_XL_giveValue ⟨_, rfl⟩ rfl rfl ⟨trivial, trivial, trivial, (Or.inr ⟨wy_pr rfl, mS_no rfl⟩), (Or.inr ⟨wy_pr rfl, mS_no rfl⟩), trivial, trivial⟩ trivial (fun _ _ q => mS_sub (by decide) q) (glx_215 (S := (w_up (w_up (w_up (w_up Sq14 158 16 0) 158 17 0) 158 16 vk) 158 17 vb)) (k := vk) (v := vb) (h := h) (c := c) (p := p) (ba := ba) (w_CL_up (w_CL_up (w_CL_up (w_CL_up (CL_tr hC tr14) (by omega)) (by omega)) (by omega)) (by omega)) (gI_up (gI_up (gI_up (gI_up tr14.2.2.2.2.2.1 (by omega) (by omega) (by omega)) (by omega) (by omega) (by omega)) (by omega) (by omega) (by omega)) (by omega) (by omega) (by omega)) ((w_up_at (by decide)).trans ((w_up_at (by decide)).trans ((w_up_at (by decide)).trans ((w_up_at (by decide)).trans (((tr14.2.2.2.1 158 4 (by decide) (by decide) (by decide) (Or.inl (by decide))).trans (l4))))))) ((w_up_at (by decide)).trans ((w_up_at (by decide)).trans ((w_up_at (by decide)).trans ((w_up_at (by decide)).trans (((tr14.2.2.2.1 158 5 (by decide) (by decide) (by decide) (Or.inl (by decide))).trans (l5))))))) ((w_up_at (by decide)).trans ((w_up_at (by decide)).trans ((w_up_at (by decide)).trans ((w_up_at (by decide)).trans (((tr14.2.2.2.1 158 8 (by decide) (by decide) (by decide) (Or.inl (by decide))).trans (l8))))))) ((w_up_slot (by decide)).trans ((w_up_slot (by decide)).trans ((w_up_slot (by decide)).trans ((w_up_slot (by decide)).trans (((tr14.2.2.2.1 215 4 (by decide) (by decide) (by decide) (Or.inl (by decide))).trans (bc))))))) ((w_up_slot (by decide)).trans ((w_up_slot (by decide)).trans ((w_up_slot (by decide)).trans ((w_up_slot (by decide)).trans (((tr14.2.2.2.1 220 (c - 1) (by decide) (by decide) (by decide) (Or.inl (by decide))).trans (bp))))))) ((((w_up_slot (by decide)).trans ((w_up_slot (by decide)).trans ((w_up_slot (by decide)).trans ((w_up_slot (by decide)).trans (((tr14.2.2.2.1 218 (-1) (by decide) (by decide) (by decide) (Or.inl (by decide))).trans (bl1)))))))).trans (((w_up_slot (by decide)).trans ((w_up_slot (by decide)).trans ((w_up_slot (by decide)).trans ((w_up_slot (by decide)).trans (((tr14.2.2.2.1 217 (-1) (by decide) (by decide) (by decide) (Or.inl (by decide))).trans (rfl)))))))).symm) (by have e : (w_up (w_up (w_up (w_up Sq14 158 16 0) 158 17 0) 158 16 vk) 158 17 vb) 217 (-1) = S 217 (-1) := ((w_up_slot (by decide)).trans ((w_up_slot (by decide)).trans ((w_up_slot (by decide)).trans ((w_up_slot (by decide)).trans (((tr14.2.2.2.1 217 (-1) (by decide) (by decide) (by decide) (Or.inl (by decide))).trans (rfl))))))); rw [e]; exact ⟨bl2, bl3⟩) (by have e : (w_up (w_up (w_up (w_up Sq14 158 16 0) 158 17 0) 158 16 vk) 158 17 vb) 217 (-1) = S 217 (-1) := ((w_up_slot (by decide)).trans ((w_up_slot (by decide)).trans ((w_up_slot (by decide)).trans ((w_up_slot (by decide)).trans (((tr14.2.2.2.1 217 (-1) (by decide) (by decide) (by decide) (Or.inl (by decide))).trans (rfl))))))); omega) ⟨by omega, by omega⟩ ⟨by omega, by omega⟩ ⟨by omega, by omega⟩ ⟨by omega, by omega⟩) (fun oq26 Sq26 hp27 q26 => ?_)
                      rcases q26 with ⟨rfl, hgv26⟩
                      show wJ _ _ _ _ _ _ _ _ _ _
                      refine wa_return rfl ?_
                      refine ⟨rfl, Or.inr ⟨by omega, Sq14, (w_up (w_up (w_up (w_up Sq14 158 16 0) 158 17 0) 158 16 vk) 158 17 vb), tr14, ?_, ?_⟩⟩
                      · exact fun j i hji => (w_up_no (by omega)).trans ((w_up_no (by omega)).trans ((w_up_no (by omega)).trans ((w_up_no (by omega)).trans (rfl))))
                      · first | (rw [if_pos (show kd = 1 by omega), if_pos (show kd = 1 by omega)]; exact hgv26) | (rw [if_neg (show ¬ kd = 1 by omega), if_neg (show ¬ kd = 1 by omega)]; exact hgv26)
                    · skip
                      refine wa_aload_n (n := 0) rfl ?_
                      refine wa_aload_n (n := 0) rfl ?_
                      refine wb_gf5 158 rfl (wy_pr rfl) wt_158 wf_5_5 (v := 216) ((w_up_at (by decide)).trans ((w_up_at (by decide)).trans ((w_up_at (by decide)).trans ((w_up_at (by decide)).trans (((tr14.2.2.2.1 158 5 (by decide) (by decide) (by decide) (Or.inl (by decide))).trans (l5))))))) (fun r28 => ?_)
                      refine wb_gf4 216 rfl (wy_pr rfl) wt_216 wf_7_0 (v := 217) wl_216_0 ?_
                      refine wa_aload_n (n := 0) rfl ?_
                      refine wb_gf5 158 rfl (wy_pr rfl) wt_158 wf_5_5 (v := 216) ((w_up_at (by decide)).trans ((w_up_at (by decide)).trans ((w_up_at (by decide)).trans ((w_up_at (by decide)).trans (((tr14.2.2.2.1 158 5 (by decide) (by decide) (by decide) (Or.inl (by decide))).trans (l5))))))) (fun r29 => ?_)
                      refine wb_gfi 216 rfl (wy_pr rfl) wt_216 wf_7_2 (v := h) ((w_up_slot (by decide)).trans ((w_up_slot (by decide)).trans ((w_up_slot (by decide)).trans ((w_up_slot (by decide)).trans (((tr14.2.2.2.1 216 2 (by decide) (by decide) (by decide) (Or.inl (by decide))).trans (bh))))))) (fun r30 => ?_)
                      refine wa_iconst ?_
                      refine wa_isub ?_
                      refine wb_bald 217 rfl (wy_pr rfl) wt_217 (n := (S 217 (-1))) ((w_up_slot (by decide)).trans ((w_up_slot (by decide)).trans ((w_up_slot (by decide)).trans ((w_up_slot (by decide)).trans (((tr14.2.2.2.1 217 (-1) (by decide) (by decide) (by decide) (Or.inl (by decide))).trans (rfl))))))) (by omega) (by omega) (v := ky) ((w_up_slot (by decide)).trans ((w_up_slot (by decide)).trans ((w_up_slot (by decide)).trans ((w_up_slot (by decide)).trans (((tr14.2.2.2.1 217 (h - 1) (by decide) (by decide) (by decide) (Or.inl (by decide))).trans (hky))))))) (fun r31 => ?_)
                      refine wb_pfi 158 rfl (wy_pr rfl) wt_158 wf_5_16 (n := 16) rfl ⟨(by omega), (by omega)⟩ ?_
                      refine wa_aload_n (n := 0) rfl ?_
                      refine wa_aload_n (n := 0) rfl ?_
                      refine wb_gf5 158 rfl (wy_pr rfl) wt_158 wf_5_5 (v := 216) ((w_up_at (by decide)).trans ((w_up_at (by decide)).trans ((w_up_at (by decide)).trans ((w_up_at (by decide)).trans ((w_up_at (by decide)).trans (((tr14.2.2.2.1 158 5 (by decide) (by decide) (by decide) (Or.inl (by decide))).trans (l5)))))))) (fun r32 => ?_)
                      refine wb_gf4 216 rfl (wy_pr rfl) wt_216 wf_7_1 (v := 218) wl_216_1 ?_
                      refine wa_aload_n (n := 0) rfl ?_
                      refine wb_gf5 158 rfl (wy_pr rfl) wt_158 wf_5_5 (v := 216) ((w_up_at (by decide)).trans ((w_up_at (by decide)).trans ((w_up_at (by decide)).trans ((w_up_at (by decide)).trans ((w_up_at (by decide)).trans (((tr14.2.2.2.1 158 5 (by decide) (by decide) (by decide) (Or.inl (by decide))).trans (l5)))))))) (fun r33 => ?_)
                      refine wb_gfi 216 rfl (wy_pr rfl) wt_216 wf_7_2 (v := h) ((w_up_slot (by decide)).trans ((w_up_slot (by decide)).trans ((w_up_slot (by decide)).trans ((w_up_slot (by decide)).trans ((w_up_slot (by decide)).trans (((tr14.2.2.2.1 216 2 (by decide) (by decide) (by decide) (Or.inl (by decide))).trans (bh)))))))) (fun r34 => ?_)
                      refine wa_iconst ?_
                      refine wa_isub ?_
                      refine wb_lald 218 rfl (wy_pr rfl) wt_218 (n := (S 217 (-1))) ((w_up_slot (by decide)).trans ((w_up_slot (by decide)).trans ((w_up_slot (by decide)).trans ((w_up_slot (by decide)).trans ((w_up_slot (by decide)).trans (((tr14.2.2.2.1 218 (-1) (by decide) (by decide) (by decide) (Or.inl (by decide))).trans (bl1)))))))) (by omega) (by omega) (v := vy) ((w_up_slot (by decide)).trans ((w_up_slot (by decide)).trans ((w_up_slot (by decide)).trans ((w_up_slot (by decide)).trans ((w_up_slot (by decide)).trans (((tr14.2.2.2.1 218 (h - 1) (by decide) (by decide) (by decide) (Or.inl (by decide))).trans (hvy)))))))) (fun r35 => ?_)
                      refine wb_pfl 158 rfl (wy_pr rfl) wt_158 wf_5_17 (n := 17) rfl ⟨(by omega), (by omega)⟩ ?_
                      refine wa_fall ⟨_, rfl⟩ ?_
                      refine wa_aload_n (n := 0) rfl ?_
                      refine wa_aload_n (n := 0) rfl ?_
                      refine wb_gfi 158 rfl (wy_pr rfl) wt_158 wf_5_16 (v := ky) ((w_up_at (by decide)).trans (w_up_same _ _ _ _)) (fun r36 => ?_)
                      refine wa_aload_n (n := 0) rfl ?_
                      refine wb_gfl 158 rfl (wy_pr rfl) wt_158 wf_5_17 (v := vy) (w_up_same _ _ _ _) (fun r37 => ?_)
                      refine wa_cv 158 rfl (wy_pr rfl) wt_158 (M2 := mS [217, 218]) rfl at_XL_giveValue ⟨_, rfl⟩ rfl rfl ⟨trivial, trivial, trivial, (Or.inr ⟨wy_pr rfl, mS_no rfl⟩), (Or.inr ⟨wy_pr rfl, mS_no rfl⟩), trivial, trivial⟩ trivial (fun _ _ q => mS_sub (by decide) q) (glx_215 (S := (w_up (w_up (w_up (w_up (w_up (w_up Sq14 158 16 0) 158 17 0) 158 16 vk) 158 17 vb) 158 16 ky) 158 17 vy)) (k := ky) (v := vy) (h := h) (c := c) (p := p) (ba := ba) (w_CL_up (w_CL_up (w_CL_up (w_CL_up (w_CL_up (w_CL_up (CL_tr hC tr14) (by omega)) (by omega)) (by omega)) (by omega)) (by omega)) (by omega)) (gI_up (gI_up (gI_up (gI_up (gI_up (gI_up tr14.2.2.2.2.2.1 (by omega) (by omega) (by omega)) (by omega) (by omega) (by omega)) (by omega) (by omega) (by omega)) (by omega) (by omega) (by omega)) (by omega) (by omega) (by omega)) (by omega) (by omega) (by omega)) ((w_up_at (by decide)).trans ((w_up_at (by decide)).trans ((w_up_at (by decide)).trans ((w_up_at (by decide)).trans ((w_up_at (by decide)).trans ((w_up_at (by decide)).trans (((tr14.2.2.2.1 158 4 (by decide) (by decide) (by decide) (Or.inl (by decide))).trans (l4))))))))) ((w_up_at (by decide)).trans ((w_up_at (by decide)).trans ((w_up_at (by decide)).trans ((w_up_at (by decide)).trans ((w_up_at (by decide)).trans ((w_up_at (by decide)).trans (((tr14.2.2.2.1 158 5 (by decide) (by decide) (by decide) (Or.inl (by decide))).trans (l5))))))))) ((w_up_at (by decide)).trans ((w_up_at (by decide)).trans ((w_up_at (by decide)).trans ((w_up_at (by decide)).trans ((w_up_at (by decide)).trans ((w_up_at (by decide)).trans (((tr14.2.2.2.1 158 8 (by decide) (by decide) (by decide) (Or.inl (by decide))).trans (l8))))))))) ((w_up_slot (by decide)).trans ((w_up_slot (by decide)).trans ((w_up_slot (by decide)).trans ((w_up_slot (by decide)).trans ((w_up_slot (by decide)).trans ((w_up_slot (by decide)).trans (((tr14.2.2.2.1 215 4 (by decide) (by decide) (by decide) (Or.inl (by decide))).trans (bc))))))))) ((w_up_slot (by decide)).trans ((w_up_slot (by decide)).trans ((w_up_slot (by decide)).trans ((w_up_slot (by decide)).trans ((w_up_slot (by decide)).trans ((w_up_slot (by decide)).trans (((tr14.2.2.2.1 220 (c - 1) (by decide) (by decide) (by decide) (Or.inl (by decide))).trans (bp))))))))) ((((w_up_slot (by decide)).trans ((w_up_slot (by decide)).trans ((w_up_slot (by decide)).trans ((w_up_slot (by decide)).trans ((w_up_slot (by decide)).trans ((w_up_slot (by decide)).trans (((tr14.2.2.2.1 218 (-1) (by decide) (by decide) (by decide) (Or.inl (by decide))).trans (bl1)))))))))).trans (((w_up_slot (by decide)).trans ((w_up_slot (by decide)).trans ((w_up_slot (by decide)).trans ((w_up_slot (by decide)).trans ((w_up_slot (by decide)).trans ((w_up_slot (by decide)).trans (((tr14.2.2.2.1 217 (-1) (by decide) (by decide) (by decide) (Or.inl (by decide))).trans (rfl)))))))))).symm) (by have e : (w_up (w_up (w_up (w_up (w_up (w_up Sq14 158 16 0) 158 17 0) 158 16 vk) 158 17 vb) 158 16 ky) 158 17 vy) 217 (-1) = S 217 (-1) := ((w_up_slot (by decide)).trans ((w_up_slot (by decide)).trans ((w_up_slot (by decide)).trans ((w_up_slot (by decide)).trans ((w_up_slot (by decide)).trans ((w_up_slot (by decide)).trans (((tr14.2.2.2.1 217 (-1) (by decide) (by decide) (by decide) (Or.inl (by decide))).trans (rfl))))))))); rw [e]; exact ⟨bl2, bl3⟩) (by have e : (w_up (w_up (w_up (w_up (w_up (w_up Sq14 158 16 0) 158 17 0) 158 16 vk) 158 17 vb) 158 16 ky) 158 17 vy) 217 (-1) = S 217 (-1) := ((w_up_slot (by decide)).trans ((w_up_slot (by decide)).trans ((w_up_slot (by decide)).trans ((w_up_slot (by decide)).trans ((w_up_slot (by decide)).trans ((w_up_slot (by decide)).trans (((tr14.2.2.2.1 217 (-1) (by decide) (by decide) (by decide) (Or.inl (by decide))).trans (rfl))))))))); omega) ⟨by omega, by omega⟩ ⟨by omega, by omega⟩ ⟨by omega, by omega⟩ ⟨by omega, by omega⟩) (fun oq38 Sq38 hp39 q38 => ?_)
                      rcases q38 with ⟨rfl, hgv38⟩
                      show wJ _ _ _ _ _ _ _ _ _ _
                      refine wa_return rfl ?_
                      refine ⟨rfl, Or.inr ⟨by omega, Sq14, (w_up (w_up (w_up (w_up (w_up (w_up Sq14 158 16 0) 158 17 0) 158 16 vk) 158 17 vb) 158 16 ky) 158 17 vy), tr14, ?_, ?_⟩⟩
                      · exact fun j i hji => (w_up_no (by omega)).trans ((w_up_no (by omega)).trans ((w_up_no (by omega)).trans ((w_up_no (by omega)).trans ((w_up_no (by omega)).trans ((w_up_no (by omega)).trans (rfl))))))
                      · first | (rw [if_pos (show kd = 1 by omega), if_pos (show kd = 1 by omega)]; exact hgv38) | (rw [if_neg (show ¬ kd = 1 by omega), if_neg (show ¬ kd = 1 by omega)]; exact hgv38)
                · skip
                  exact absurd c16 (by omega)
              · skip
                exact absurd c12 (by omega)
            · skip
              exact absurd c11 (by omega)
        · skip
          exact absurd c7 (by omega)
      · skip
        refine wa_aload_n (n := 2) rfl ?_
        refine wb_gf4 73 rfl (wy_pr rfl) wt_73 wf_3_3 (v := 96) wl_73_3 ?_
        refine wa_bipush (w_rg2 (by omega) (by omega)) ?_
        refine wb_aald5 96 15 rfl rfl (wy_pr rfl) wt_96 (by rw [show _ = _ from ((cl_96 hC))]; omega) wl_96_15 ?_
        refine wa_iload_n (n := 1) rfl ?_
        refine wb_iald 112 rfl (wy_pr rfl) wt_112 (n := 400) ((cl_112 hC)) (by omega) (by omega) (v := fl) (hmf) (fun r40 => ?_)
        refine wa_iconst ?_
        refine wa_icmpne (w_rg0 (by omega) (by omega)) (w_rg0 (by omega) (by omega)) ⟨_, rfl⟩ (fun c41 => ?_) (fun c41 => ?_)
        · skip
          refine wa_iconst ?_
          refine wa_fall ⟨_, rfl⟩ ?_
          refine wa_istore (n := 4) rfl ?_
          refine wa_iload_n (n := 3) rfl ?_
          refine wa_ifeq (w_rg0 (by omega) (by omega)) ⟨_, rfl⟩ (fun c42 => ?_) (fun c42 => ?_)
          · skip
            refine wa_iconst ?_
            refine wa_fall ⟨_, rfl⟩ ?_
            refine wa_istore (n := 5) rfl ?_
            refine wa_aload_n (n := 0) rfl ?_
            refine wb_gf4 158 rfl (wy_pr rfl) wt_158 wf_5_0 (v := 72) wl_158_0 ?_
            refine wb_gfi 72 rfl (wy_pr rfl) wt_72 wf_2_15 (v := tn) (ht15) (fun r43 => ?_)
            refine wa_iconst ?_
            refine wa_iadd ?_
            refine wb_ki (n := 100000) rfl ?_
            refine wa_icmpgt (w_rg0 (by omega) (by omega)) (w_rg0 (by omega) (by omega)) ⟨_, rfl⟩ (fun c44 => ?_) (fun c44 => ?_)
            · skip
              refine wa_aload_n (n := 0) rfl ?_
              refine wb_gf5 158 rfl (wy_pr rfl) wt_158 wf_5_4 (v := 215) (l4) (fun r45 => ?_)
              refine wa_bipush (w_rg2 (by omega) (by omega)) ?_
              refine wb_pfi 215 rfl (wy_pr rfl) wt_215 wf_8_16 (n := 16) rfl ⟨(by omega), (by omega)⟩ ?_
              refine wa_return rfl ?_
              exact ⟨rfl, Or.inl ⟨by omega, rfl⟩⟩
            · skip
              refine wa_iload_n (n := 3) rfl ?_
              refine wa_ifeq (w_rg0 (by omega) (by omega)) ⟨_, rfl⟩ (fun c46 => ?_) (fun c46 => ?_)
              · skip
                refine wa_iload (n := 4) rfl ?_
                refine wa_ifeq (w_rg0 (by omega) (by omega)) ⟨_, rfl⟩ (fun c47 => ?_) (fun c47 => ?_)
                · skip
                  refine wa_aload_n (n := 0) rfl ?_
                  refine wb_gf4 158 rfl (wy_pr rfl) wt_158 wf_5_0 (v := 72) wl_158_0 ?_
                  refine wa_iload_n (n := 1) rfl ?_
                  refine wa_aload_n (n := 0) rfl ?_
                  refine wb_gfi 158 rfl (wy_pr rfl) wt_158 wf_5_12 (v := en) (l12) (fun r48 => ?_)
                  refine wa_cv 72 rfl (wy_pr rfl) wt_72 (M2 := mS [152]) rfl at_XH_addTrace ⟨_, rfl⟩ rfl rfl ⟨trivial, trivial, trivial, (Or.inr ⟨wy_pr rfl, mS_no rfl⟩), (Or.inr ⟨wy_pr rfl, mS_no rfl⟩), trivial, trivial⟩ trivial (fun _ _ q => mS_sub (by decide) q) (tra (S := S) (m := m) (k := en) hI ⟨by omega, by omega⟩ ⟨by omega, by omega⟩ (by rw [ht15]; exact ht0) (by rw [ht15]; exact ht9)) (fun oq49 Sq49 hp50 q49 => ?_)
                  rcases q49 with ⟨rfl, tr49⟩
                  show wJ _ _ _ _ _ _ _ _ _ _
                  refine wa_aload_n (n := 0) rfl ?_
                  refine wa_iconst ?_
                  refine wb_pfi 158 rfl (wy_pr rfl) wt_158 wf_5_16 (n := 16) rfl ⟨(by omega), (by omega)⟩ ?_
                  refine wa_aload_n (n := 0) rfl ?_
                  refine wb_lconst (m := 0) rfl ?_
                  refine wb_pfl 158 rfl (wy_pr rfl) wt_158 wf_5_17 (n := 17) rfl ⟨(by omega), (by omega)⟩ ?_
                  refine wa_iload_n (n := 3) rfl ?_
                  refine wa_ifeq (w_rg0 (by omega) (by omega)) ⟨_, rfl⟩ (fun c51 => ?_) (fun c51 => ?_)
                  · skip
                    refine wa_aload_n (n := 2) rfl ?_
                    refine wb_gf4 73 rfl (wy_pr rfl) wt_73 wf_3_3 (v := 96) wl_73_3 ?_
                    refine wa_bipush (w_rg2 (by omega) (by omega)) ?_
                    refine wb_aald5 96 15 rfl rfl (wy_pr rfl) wt_96 (by rw [show _ = _ from ((w_up_slot (by decide)).trans ((w_up_slot (by decide)).trans (((tr49.2.2.2.1 96 (-1) (by decide) (by decide) (by decide) (Or.inl (by decide))).trans ((cl_96 hC))))))]; omega) wl_96_15 ?_
                    refine wa_iload_n (n := 1) rfl ?_
                    refine wb_iald 112 rfl (wy_pr rfl) wt_112 (n := 400) ((w_up_slot (by decide)).trans ((w_up_slot (by decide)).trans (((tr49.2.2.2.1 112 (-1) (by decide) (by decide) (by decide) (Or.inl (by decide))).trans ((cl_112 hC)))))) (by omega) (by omega) (v := fl) ((w_up_slot (by decide)).trans ((w_up_slot (by decide)).trans (((tr49.2.2.2.1 112 m (by decide) (by decide) (by decide) (Or.inl (by decide))).trans (hmf))))) (fun r52 => ?_)
                    refine wa_iconst ?_
                    refine wa_icmpeq (w_rg0 (by omega) (by omega)) (w_rg0 (by omega) (by omega)) ⟨_, rfl⟩ (fun c53 => ?_) (fun c53 => ?_)
                    · skip
                      exact absurd c53 (by omega)
                    · skip
                      refine wa_aload_n (n := 0) rfl ?_
                      refine wa_iload_n (n := 1) rfl ?_
                      refine wa_aload_n (n := 2) rfl ?_
                      refine wb_gf4 73 rfl (wy_pr rfl) wt_73 wf_3_3 (v := 96) wl_73_3 ?_
                      refine wa_bipush (w_rg2 (by omega) (by omega)) ?_
                      refine wb_aald5 96 15 rfl rfl (wy_pr rfl) wt_96 (by rw [show _ = _ from ((w_up_slot (by decide)).trans ((w_up_slot (by decide)).trans (((tr49.2.2.2.1 96 (-1) (by decide) (by decide) (by decide) (Or.inl (by decide))).trans ((cl_96 hC))))))]; omega) wl_96_15 ?_
                      refine wa_iload_n (n := 1) rfl ?_
                      refine wb_iald 112 rfl (wy_pr rfl) wt_112 (n := 400) ((w_up_slot (by decide)).trans ((w_up_slot (by decide)).trans (((tr49.2.2.2.1 112 (-1) (by decide) (by decide) (by decide) (Or.inl (by decide))).trans ((cl_112 hC)))))) (by omega) (by omega) (v := fl) ((w_up_slot (by decide)).trans ((w_up_slot (by decide)).trans (((tr49.2.2.2.1 112 m (by decide) (by decide) (by decide) (Or.inl (by decide))).trans (hmf))))) (fun r54 => ?_)
                      have hf2 : ∀ (j : Nat) (i : Int), j < 4000000 → j ≠ wG → j ≠ 152 → j ≠ 72 → j ≠ 158 → (w_up (w_up Sq49 158 16 0) 158 17 0) j i = S j i := fun j i a b c d e => (w_up_no (fun z => e z.1)).trans ((w_up_no (fun z => e z.1)).trans (tr49.2.2.2.1 j i a b c (Or.inl d)))
                      have el : (w_up (w_up Sq49 158 16 0) 158 17 0) 117 (-1) = S 117 (-1) := (hf2 117 _ (by first | decide | omega) (by first | decide | omega) (by first | decide | omega) (by first | decide | omega) (by first | decide | omega))
                      have el2 : (w_up (w_up Sq49 158 16 0) 158 17 0) 118 (-1) = S 118 (-1) := (hf2 118 _ (by first | decide | omega) (by first | decide | omega) (by first | decide | omega) (by first | decide | omega) (by first | decide | omega))
                      refine wa_cv 158 rfl (wy_pr rfl) wt_158 (M2 := fun _ => False) rfl at_XL_useField ⟨_, rfl⟩ rfl rfl ⟨trivial, trivial, trivial, (Or.inr ⟨wy_pr rfl, fun q => q⟩), (Or.inr ⟨wy_pr rfl, fun q => q⟩), trivial, trivial⟩ trivial (fun _ _ q => False.elim q) (usg1_73_215 (S := (w_up (w_up Sq49 158 16 0) 158 17 0)) (m := m) (f := fl) (w_CL_up (w_CL_up (CL_tr hC tr49) (by omega)) (by omega)) ((w_up_slot (by decide)).trans ((w_up_slot (by decide)).trans (((tr49.2.2.2.1 72 1 (by decide) (by decide) (by decide) (Or.inr (by decide))).trans (h72))))) ((w_up_at (by decide)).trans ((w_up_at (by decide)).trans (((tr49.2.2.2.1 158 5 (by decide) (by decide) (by decide) (Or.inl (by decide))).trans (l5))))) ((w_up_at (by decide)).trans ((w_up_at (by decide)).trans (((tr49.2.2.2.1 158 8 (by decide) (by decide) (by decide) (Or.inl (by decide))).trans (l8))))) (((w_up_at (by decide)).trans ((w_up_at (by decide)).trans ((tr49.2.2.2.1 158 10 (by decide) (by decide) (by decide) (Or.inl (by decide)))))).trans l10) hm hfl ((hf2 99 _ (by decide) (by decide) (by decide) (by decide) (by decide)).trans hstt) ((hf2 112 _ (by decide) (by decide) (by decide) (by decide) (by decide)).trans hfi) (by rw [el, el2]; exact hrl) (by rw [el]; exact hrb) ((hf2 101 _ (by decide) (by decide) (by decide) (by decide) (by decide)).trans hmc) ((hf2 117 _ (by decide) (by decide) (by decide) (by decide) (by decide)).trans hvk) ((hf2 118 _ (by decide) (by decide) (by decide) (by decide) (by decide)).trans hvb)) (fun oq55 Sq55 hp56 q55 => ?_)
                      rcases q55 with ⟨rfl, rfl⟩
                      show wJ _ _ _ _ _ _ _ _ _ _
                      refine wa_goto ⟨_, rfl⟩ ?_
                      refine wa_aload_n (n := 0) rfl ?_
                      refine wb_gfi 158 rfl (wy_pr rfl) wt_158 wf_5_7 (v := kd) ((w_up_at (by decide)).trans ((w_up_at (by decide)).trans ((w_up_at (by decide)).trans ((w_up_at (by decide)).trans (((tr49.2.2.2.1 158 7 (by decide) (by decide) (by decide) (Or.inl (by decide))).trans (l7))))))) (fun r57 => ?_)
                      refine wa_iconst ?_
                      refine wa_icmpne (w_rg0 (by omega) (by omega)) (w_rg0 (by omega) (by omega)) ⟨_, rfl⟩ (fun c58 => ?_) (fun c58 => ?_)
                      · skip
                        refine wa_aload_n (n := 0) rfl ?_
                        refine wa_aload_n (n := 0) rfl ?_
                        refine wb_gfi 158 rfl (wy_pr rfl) wt_158 wf_5_16 (v := vk) ((w_up_at (by decide)).trans (w_up_same _ _ _ _)) (fun r59 => ?_)
                        refine wa_aload_n (n := 0) rfl ?_
                        refine wb_gfl 158 rfl (wy_pr rfl) wt_158 wf_5_17 (v := vb) (w_up_same _ _ _ _) (fun r60 => ?_)
                        refine wa_cv 158 rfl (wy_pr rfl) wt_158 (M2 := mS [217, 218]) rfl at_XL_giveValue ⟨_, rfl⟩ rfl rfl ⟨trivial, trivial, trivial, (Or.inr ⟨wy_pr rfl, mS_no rfl⟩), (Or.inr ⟨wy_pr rfl, mS_no rfl⟩), trivial, trivial⟩ trivial (fun _ _ q => mS_sub (by decide) q) (glx_215 (S := (w_up (w_up (w_up (w_up Sq49 158 16 0) 158 17 0) 158 16 vk) 158 17 vb)) (k := vk) (v := vb) (h := h) (c := c) (p := p) (ba := ba) (w_CL_up (w_CL_up (w_CL_up (w_CL_up (CL_tr hC tr49) (by omega)) (by omega)) (by omega)) (by omega)) (gI_up (gI_up (gI_up (gI_up tr49.2.2.2.2.2.1 (by omega) (by omega) (by omega)) (by omega) (by omega) (by omega)) (by omega) (by omega) (by omega)) (by omega) (by omega) (by omega)) ((w_up_at (by decide)).trans ((w_up_at (by decide)).trans ((w_up_at (by decide)).trans ((w_up_at (by decide)).trans (((tr49.2.2.2.1 158 4 (by decide) (by decide) (by decide) (Or.inl (by decide))).trans (l4))))))) ((w_up_at (by decide)).trans ((w_up_at (by decide)).trans ((w_up_at (by decide)).trans ((w_up_at (by decide)).trans (((tr49.2.2.2.1 158 5 (by decide) (by decide) (by decide) (Or.inl (by decide))).trans (l5))))))) ((w_up_at (by decide)).trans ((w_up_at (by decide)).trans ((w_up_at (by decide)).trans ((w_up_at (by decide)).trans (((tr49.2.2.2.1 158 8 (by decide) (by decide) (by decide) (Or.inl (by decide))).trans (l8))))))) ((w_up_slot (by decide)).trans ((w_up_slot (by decide)).trans ((w_up_slot (by decide)).trans ((w_up_slot (by decide)).trans (((tr49.2.2.2.1 215 4 (by decide) (by decide) (by decide) (Or.inl (by decide))).trans (bc))))))) ((w_up_slot (by decide)).trans ((w_up_slot (by decide)).trans ((w_up_slot (by decide)).trans ((w_up_slot (by decide)).trans (((tr49.2.2.2.1 220 (c - 1) (by decide) (by decide) (by decide) (Or.inl (by decide))).trans (bp))))))) ((((w_up_slot (by decide)).trans ((w_up_slot (by decide)).trans ((w_up_slot (by decide)).trans ((w_up_slot (by decide)).trans (((tr49.2.2.2.1 218 (-1) (by decide) (by decide) (by decide) (Or.inl (by decide))).trans (bl1)))))))).trans (((w_up_slot (by decide)).trans ((w_up_slot (by decide)).trans ((w_up_slot (by decide)).trans ((w_up_slot (by decide)).trans (((tr49.2.2.2.1 217 (-1) (by decide) (by decide) (by decide) (Or.inl (by decide))).trans (rfl)))))))).symm) (by have e : (w_up (w_up (w_up (w_up Sq49 158 16 0) 158 17 0) 158 16 vk) 158 17 vb) 217 (-1) = S 217 (-1) := ((w_up_slot (by decide)).trans ((w_up_slot (by decide)).trans ((w_up_slot (by decide)).trans ((w_up_slot (by decide)).trans (((tr49.2.2.2.1 217 (-1) (by decide) (by decide) (by decide) (Or.inl (by decide))).trans (rfl))))))); rw [e]; exact ⟨bl2, bl3⟩) (by have e : (w_up (w_up (w_up (w_up Sq49 158 16 0) 158 17 0) 158 16 vk) 158 17 vb) 217 (-1) = S 217 (-1) := ((w_up_slot (by decide)).trans ((w_up_slot (by decide)).trans ((w_up_slot (by decide)).trans ((w_up_slot (by decide)).trans (((tr49.2.2.2.1 217 (-1) (by decide) (by decide) (by decide) (Or.inl (by decide))).trans (rfl))))))); omega) ⟨by omega, by omega⟩ ⟨by omega, by omega⟩ ⟨by omega, by omega⟩ ⟨by omega, by omega⟩) (fun oq61 Sq61 hp62 q61 => ?_)
                        rcases q61 with ⟨rfl, hgv61⟩
                        show wJ _ _ _ _ _ _ _ _ _ _
                        refine wa_return rfl ?_
                        refine ⟨rfl, Or.inr ⟨by omega, Sq49, (w_up (w_up (w_up (w_up Sq49 158 16 0) 158 17 0) 158 16 vk) 158 17 vb), tr49, ?_, ?_⟩⟩
                        · exact fun j i hji => (w_up_no (by omega)).trans ((w_up_no (by omega)).trans ((w_up_no (by omega)).trans ((w_up_no (by omega)).trans (rfl))))
                        · first | (rw [if_pos (show kd = 1 by omega), if_pos (show kd = 1 by omega)]; exact hgv61) | (rw [if_neg (show ¬ kd = 1 by omega), if_neg (show ¬ kd = 1 by omega)]; exact hgv61)
                      · skip
                        refine wa_aload_n (n := 0) rfl ?_
                        refine wa_aload_n (n := 0) rfl ?_
                        refine wb_gf5 158 rfl (wy_pr rfl) wt_158 wf_5_5 (v := 216) ((w_up_at (by decide)).trans ((w_up_at (by decide)).trans ((w_up_at (by decide)).trans ((w_up_at (by decide)).trans (((tr49.2.2.2.1 158 5 (by decide) (by decide) (by decide) (Or.inl (by decide))).trans (l5))))))) (fun r63 => ?_)
                        refine wb_gf4 216 rfl (wy_pr rfl) wt_216 wf_7_0 (v := 217) wl_216_0 ?_
                        refine wa_aload_n (n := 0) rfl ?_
                        refine wb_gf5 158 rfl (wy_pr rfl) wt_158 wf_5_5 (v := 216) ((w_up_at (by decide)).trans ((w_up_at (by decide)).trans ((w_up_at (by decide)).trans ((w_up_at (by decide)).trans (((tr49.2.2.2.1 158 5 (by decide) (by decide) (by decide) (Or.inl (by decide))).trans (l5))))))) (fun r64 => ?_)
                        refine wb_gfi 216 rfl (wy_pr rfl) wt_216 wf_7_2 (v := h) ((w_up_slot (by decide)).trans ((w_up_slot (by decide)).trans ((w_up_slot (by decide)).trans ((w_up_slot (by decide)).trans (((tr49.2.2.2.1 216 2 (by decide) (by decide) (by decide) (Or.inl (by decide))).trans (bh))))))) (fun r65 => ?_)
                        refine wa_iconst ?_
                        refine wa_isub ?_
                        refine wb_bald 217 rfl (wy_pr rfl) wt_217 (n := (S 217 (-1))) ((w_up_slot (by decide)).trans ((w_up_slot (by decide)).trans ((w_up_slot (by decide)).trans ((w_up_slot (by decide)).trans (((tr49.2.2.2.1 217 (-1) (by decide) (by decide) (by decide) (Or.inl (by decide))).trans (rfl))))))) (by omega) (by omega) (v := ky) ((w_up_slot (by decide)).trans ((w_up_slot (by decide)).trans ((w_up_slot (by decide)).trans ((w_up_slot (by decide)).trans (((tr49.2.2.2.1 217 (h - 1) (by decide) (by decide) (by decide) (Or.inl (by decide))).trans (hky))))))) (fun r66 => ?_)
                        refine wb_pfi 158 rfl (wy_pr rfl) wt_158 wf_5_16 (n := 16) rfl ⟨(by omega), (by omega)⟩ ?_
                        refine wa_aload_n (n := 0) rfl ?_
                        refine wa_aload_n (n := 0) rfl ?_
                        refine wb_gf5 158 rfl (wy_pr rfl) wt_158 wf_5_5 (v := 216) ((w_up_at (by decide)).trans ((w_up_at (by decide)).trans ((w_up_at (by decide)).trans ((w_up_at (by decide)).trans ((w_up_at (by decide)).trans (((tr49.2.2.2.1 158 5 (by decide) (by decide) (by decide) (Or.inl (by decide))).trans (l5)))))))) (fun r67 => ?_)
                        refine wb_gf4 216 rfl (wy_pr rfl) wt_216 wf_7_1 (v := 218) wl_216_1 ?_
                        refine wa_aload_n (n := 0) rfl ?_
                        refine wb_gf5 158 rfl (wy_pr rfl) wt_158 wf_5_5 (v := 216) ((w_up_at (by decide)).trans ((w_up_at (by decide)).trans ((w_up_at (by decide)).trans ((w_up_at (by decide)).trans ((w_up_at (by decide)).trans (((tr49.2.2.2.1 158 5 (by decide) (by decide) (by decide) (Or.inl (by decide))).trans (l5)))))))) (fun r68 => ?_)
                        refine wb_gfi 216 rfl (wy_pr rfl) wt_216 wf_7_2 (v := h) ((w_up_slot (by decide)).trans ((w_up_slot (by decide)).trans ((w_up_slot (by decide)).trans ((w_up_slot (by decide)).trans ((w_up_slot (by decide)).trans (((tr49.2.2.2.1 216 2 (by decide) (by decide) (by decide) (Or.inl (by decide))).trans (bh)))))))) (fun r69 => ?_)
                        refine wa_iconst ?_
                        refine wa_isub ?_
                        refine wb_lald 218 rfl (wy_pr rfl) wt_218 (n := (S 217 (-1))) ((w_up_slot (by decide)).trans ((w_up_slot (by decide)).trans ((w_up_slot (by decide)).trans ((w_up_slot (by decide)).trans ((w_up_slot (by decide)).trans (((tr49.2.2.2.1 218 (-1) (by decide) (by decide) (by decide) (Or.inl (by decide))).trans (bl1)))))))) (by omega) (by omega) (v := vy) ((w_up_slot (by decide)).trans ((w_up_slot (by decide)).trans ((w_up_slot (by decide)).trans ((w_up_slot (by decide)).trans ((w_up_slot (by decide)).trans (((tr49.2.2.2.1 218 (h - 1) (by decide) (by decide) (by decide) (Or.inl (by decide))).trans (hvy)))))))) (fun r70 => ?_)
                        refine wb_pfl 158 rfl (wy_pr rfl) wt_158 wf_5_17 (n := 17) rfl ⟨(by omega), (by omega)⟩ ?_
                        refine wa_fall ⟨_, rfl⟩ ?_
                        refine wa_aload_n (n := 0) rfl ?_
                        refine wa_aload_n (n := 0) rfl ?_
                        refine wb_gfi 158 rfl (wy_pr rfl) wt_158 wf_5_16 (v := ky) ((w_up_at (by decide)).trans (w_up_same _ _ _ _)) (fun r71 => ?_)
                        refine wa_aload_n (n := 0) rfl ?_
                        refine wb_gfl 158 rfl (wy_pr rfl) wt_158 wf_5_17 (v := vy) (w_up_same _ _ _ _) (fun r72 => ?_)
                        refine wa_cv 158 rfl (wy_pr rfl) wt_158 (M2 := mS [217, 218]) rfl at_XL_giveValue ⟨_, rfl⟩ rfl rfl ⟨trivial, trivial, trivial, (Or.inr ⟨wy_pr rfl, mS_no rfl⟩), (Or.inr ⟨wy_pr rfl, mS_no rfl⟩), trivial, trivial⟩ trivial (fun _ _ q => mS_sub (by decide) q) (glx_215 (S := (w_up (w_up (w_up (w_up (w_up (w_up Sq49 158 16 0) 158 17 0) 158 16 vk) 158 17 vb) 158 16 ky) 158 17 vy)) (k := ky) (v := vy) (h := h) (c := c) (p := p) (ba := ba) (w_CL_up (w_CL_up (w_CL_up (w_CL_up (w_CL_up (w_CL_up (CL_tr hC tr49) (by omega)) (by omega)) (by omega)) (by omega)) (by omega)) (by omega)) (gI_up (gI_up (gI_up (gI_up (gI_up (gI_up tr49.2.2.2.2.2.1 (by omega) (by omega) (by omega)) (by omega) (by omega) (by omega)) (by omega) (by omega) (by omega)) (by omega) (by omega) (by omega)) (by omega) (by omega) (by omega)) (by omega) (by omega) (by omega)) ((w_up_at (by decide)).trans ((w_up_at (by decide)).trans ((w_up_at (by decide)).trans ((w_up_at (by decide)).trans ((w_up_at (by decide)).trans ((w_up_at (by decide)).trans (((tr49.2.2.2.1 158 4 (by decide) (by decide) (by decide) (Or.inl (by decide))).trans (l4))))))))) ((w_up_at (by decide)).trans ((w_up_at (by decide)).trans ((w_up_at (by decide)).trans ((w_up_at (by decide)).trans ((w_up_at (by decide)).trans ((w_up_at (by decide)).trans (((tr49.2.2.2.1 158 5 (by decide) (by decide) (by decide) (Or.inl (by decide))).trans (l5))))))))) ((w_up_at (by decide)).trans ((w_up_at (by decide)).trans ((w_up_at (by decide)).trans ((w_up_at (by decide)).trans ((w_up_at (by decide)).trans ((w_up_at (by decide)).trans (((tr49.2.2.2.1 158 8 (by decide) (by decide) (by decide) (Or.inl (by decide))).trans (l8))))))))) ((w_up_slot (by decide)).trans ((w_up_slot (by decide)).trans ((w_up_slot (by decide)).trans ((w_up_slot (by decide)).trans ((w_up_slot (by decide)).trans ((w_up_slot (by decide)).trans (((tr49.2.2.2.1 215 4 (by decide) (by decide) (by decide) (Or.inl (by decide))).trans (bc))))))))) ((w_up_slot (by decide)).trans ((w_up_slot (by decide)).trans ((w_up_slot (by decide)).trans ((w_up_slot (by decide)).trans ((w_up_slot (by decide)).trans ((w_up_slot (by decide)).trans (((tr49.2.2.2.1 220 (c - 1) (by decide) (by decide) (by decide) (Or.inl (by decide))).trans (bp))))))))) ((((w_up_slot (by decide)).trans ((w_up_slot (by decide)).trans ((w_up_slot (by decide)).trans ((w_up_slot (by decide)).trans ((w_up_slot (by decide)).trans ((w_up_slot (by decide)).trans (((tr49.2.2.2.1 218 (-1) (by decide) (by decide) (by decide) (Or.inl (by decide))).trans (bl1)))))))))).trans (((w_up_slot (by decide)).trans ((w_up_slot (by decide)).trans ((w_up_slot (by decide)).trans ((w_up_slot (by decide)).trans ((w_up_slot (by decide)).trans ((w_up_slot (by decide)).trans (((tr49.2.2.2.1 217 (-1) (by decide) (by decide) (by decide) (Or.inl (by decide))).trans (rfl)))))))))).symm) (by have e : (w_up (w_up (w_up (w_up (w_up (w_up Sq49 158 16 0) 158 17 0) 158 16 vk) 158 17 vb) 158 16 ky) 158 17 vy) 217 (-1) = S 217 (-1) := ((w_up_slot (by decide)).trans ((w_up_slot (by decide)).trans ((w_up_slot (by decide)).trans ((w_up_slot (by decide)).trans ((w_up_slot (by decide)).trans ((w_up_slot (by decide)).trans (((tr49.2.2.2.1 217 (-1) (by decide) (by decide) (by decide) (Or.inl (by decide))).trans (rfl))))))))); rw [e]; exact ⟨bl2, bl3⟩) (by have e : (w_up (w_up (w_up (w_up (w_up (w_up Sq49 158 16 0) 158 17 0) 158 16 vk) 158 17 vb) 158 16 ky) 158 17 vy) 217 (-1) = S 217 (-1) := ((w_up_slot (by decide)).trans ((w_up_slot (by decide)).trans ((w_up_slot (by decide)).trans ((w_up_slot (by decide)).trans ((w_up_slot (by decide)).trans ((w_up_slot (by decide)).trans (((tr49.2.2.2.1 217 (-1) (by decide) (by decide) (by decide) (Or.inl (by decide))).trans (rfl))))))))); omega) ⟨by omega, by omega⟩ ⟨by omega, by omega⟩ ⟨by omega, by omega⟩ ⟨by omega, by omega⟩) (fun oq73 Sq73 hp74 q73 => ?_)
                        rcases q73 with ⟨rfl, hgv73⟩
                        show wJ _ _ _ _ _ _ _ _ _ _
                        refine wa_return rfl ?_
                        refine ⟨rfl, Or.inr ⟨by omega, Sq49, (w_up (w_up (w_up (w_up (w_up (w_up Sq49 158 16 0) 158 17 0) 158 16 vk) 158 17 vb) 158 16 ky) 158 17 vy), tr49, ?_, ?_⟩⟩
                        · exact fun j i hji => (w_up_no (by omega)).trans ((w_up_no (by omega)).trans ((w_up_no (by omega)).trans ((w_up_no (by omega)).trans ((w_up_no (by omega)).trans ((w_up_no (by omega)).trans (rfl))))))
                        · first | (rw [if_pos (show kd = 1 by omega), if_pos (show kd = 1 by omega)]; exact hgv73) | (rw [if_neg (show ¬ kd = 1 by omega), if_neg (show ¬ kd = 1 by omega)]; exact hgv73)
                  · skip
                    exact absurd c51 (by omega)
                · skip
                  exact absurd c47 (by omega)
              · skip
                exact absurd c46 (by omega)
          · skip
            exact absurd c42 (by omega)
        · skip
          exact absurd c41 (by omega)
  · skip
    exact absurd c3 (by omega)
set_option maxHeartbeats 4000000 in
theorem cms1_73_215 {c p h kd ba m en tn ky vy fl fi gb ty k1 v1 : Int} (hP : xP 215 c p h S) (l4 : S 158 4 = 215) (l5 : S 158 5 = 216) (l7 : S 158 7 = kd) (l8 : S 158 8 = ba) (l12 : S 158 12 = en) (hen : 0 ≤ en ∧ en ≤ 1000) (hba : 0 ≤ ba ∧ ba < h) (h72 : S 72 1 = 73) (hm : 0 ≤ m ∧ m < 400) (hso : S 98 m = 1) (ht15 : S 72 15 = tn) (ht0 : 0 ≤ tn ∧ tn ≤ S 152 (-1) ∧ tn ≤ 100000) (ht9 : 16 ≤ S 152 (-1) ∧ S 152 (-1) ≤ 131072 ∨ (16 ≤ S 152 (-1) ∧ S 152 (-1) ≤ 262143 ∧ tn + 2 ≤ S 152 (-1))) (hky : S 217 (h - 1) = ky) (hvy : S 218 (h - 1) = vy) (hkr : -128 ≤ ky ∧ ky ≤ 127) (hvr : -9223372036854775808 ≤ vy ∧ vy ≤ 9223372036854775807) (hmf : S 112 m = fl) (hfl : 0 ≤ fl ∧ fl < 400) (hstt : S 99 fl = 1) (hfi : S 112 fl = fi) (l10 : S 158 10 = gb) (hmt : S 100 m = ty) (hmc : S 101 m = 1) (hrl : S 118 (-1) = S 117 (-1)) (hrb : 0 ≤ fi ∧ fi < S 117 (-1) ∧ S 117 (-1) ≤ 8388608) (hb1 : ba + 1 < h) (hk1 : S 217 (ba + 1) = k1) (hv1 : S 218 (ba + 1) = v1) : wJ (pe_GA xs) wY0 (mS [217, 218, 152]) (d + 6) t_XL_callMember ((pe_at t_XL_callMember.bl 0).getD (0, [])).2 [(0, (2, 158)), (1, (0, m))] [] S (fun o Z => o = .inl none ∧ ((100000 < tn + 2 ∧ w_up S 215 16 99 = Z) ∨ (¬ (100000 < tn + 2) ∧ cmE 215 h c p (h - ba) kd ky vy 0 0 m en (fun A B => gvR (w_up (w_up A 117 fi k1) 118 fi v1) B) S Z))) := by
  obtain ⟨⟨hC, hI⟩, ⟨bc, bc0, bc1⟩, ⟨bp, bp0, bp1⟩, ⟨bh, bh0, bh1, bh2⟩, bl1, bl2, bl3⟩ := hP
  replace bp : S 220 (c - 1) = p := bp
  replace bh : S 216 2 = h := bh
  replace bh2 : h ≤ S 217 (-1) := bh2
  replace bl1 : S 218 (-1) = S 217 (-1) := bl1
  replace bl2 : 64 ≤ S 217 (-1) := bl2
  replace bl3 : S 217 (-1) ≤ 4095 := bl3
  refine wa_aload_n (n := 0) rfl ?_
  refine wb_gf4 158 rfl (wy_pr rfl) wt_158 wf_5_0 (v := 72) wl_158_0 ?_
  refine wb_gf5 72 rfl (wy_pr rfl) wt_72 wf_2_1 (v := 73) (h72) (fun r1 => ?_)
  refine wa_astore_n (n := 2) rfl ?_
  refine wa_aload_n (n := 2) rfl ?_
  refine wb_gf4 73 rfl (wy_pr rfl) wt_73 wf_3_3 (v := 96) wl_73_3 ?_
  refine wa_iconst ?_
  refine wb_aald5 96 1 rfl rfl (wy_pr rfl) wt_96 (by rw [show _ = _ from ((cl_96 hC))]; omega) wl_96_1 ?_
  refine wa_iload_n (n := 1) rfl ?_
  refine wb_iald 98 rfl (wy_pr rfl) wt_98 (n := 400) ((cl_98 hC)) (by omega) (by omega) (v := 1) (hso) (fun r2 => ?_)
  refine wa_iconst ?_
  refine wa_icmpne (w_rg0 (by omega) (by omega)) (w_rg0 (by omega) (by omega)) ⟨_, rfl⟩ (fun c3 => ?_) (fun c3 => ?_)
  · skip
    refine wa_iconst ?_
    refine wa_fall ⟨_, rfl⟩ ?_
    refine wa_istore_n (n := 3) rfl ?_
    refine wa_iload_n (n := 3) rfl ?_
    refine wa_ifne (w_rg0 (by omega) (by omega)) ⟨_, rfl⟩ (fun c4 => ?_) (fun c4 => ?_)
    · skip
      exact absurd c4 (by omega)
    · skip
      refine wa_aload_n (n := 2) rfl ?_
      refine wb_gf4 73 rfl (wy_pr rfl) wt_73 wf_3_3 (v := 96) wl_73_3 ?_
      refine wa_iconst ?_
      refine wb_aald5 96 3 rfl rfl (wy_pr rfl) wt_96 (by rw [show _ = _ from ((cl_96 hC))]; omega) wl_96_3 ?_
      refine wa_iload_n (n := 1) rfl ?_
      refine wb_iald 100 rfl (wy_pr rfl) wt_100 (n := 400) ((cl_100 hC)) (by omega) (by omega) (v := ty) (hmt) (fun r5 => ?_)
      refine wa_bipush (w_rg2 (by omega) (by omega)) ?_
      refine wa_icmpne (w_rg0 (by omega) (by omega)) (w_rg0 (by omega) (by omega)) ⟨_, rfl⟩ (fun c6 => ?_) (fun c6 => ?_)
      · skip
        refine wa_iconst ?_
        refine wa_fall ⟨_, rfl⟩ ?_
        refine wa_istore (n := 4) rfl ?_
        refine wa_iload_n (n := 3) rfl ?_
        refine wa_ifeq (w_rg0 (by omega) (by omega)) ⟨_, rfl⟩ (fun c7 => ?_) (fun c7 => ?_)
        · skip
          refine wa_iconst ?_
          refine wa_fall ⟨_, rfl⟩ ?_
          refine wa_istore (n := 5) rfl ?_
          refine wa_aload_n (n := 0) rfl ?_
          refine wb_gf4 158 rfl (wy_pr rfl) wt_158 wf_5_0 (v := 72) wl_158_0 ?_
          refine wb_gfi 72 rfl (wy_pr rfl) wt_72 wf_2_15 (v := tn) (ht15) (fun r8 => ?_)
          refine wa_iconst ?_
          refine wa_iadd ?_
          refine wb_ki (n := 100000) rfl ?_
          refine wa_icmpgt (w_rg0 (by omega) (by omega)) (w_rg0 (by omega) (by omega)) ⟨_, rfl⟩ (fun c9 => ?_) (fun c9 => ?_)
          · skip
            refine wa_aload_n (n := 0) rfl ?_
            refine wb_gf5 158 rfl (wy_pr rfl) wt_158 wf_5_4 (v := 215) (l4) (fun r10 => ?_)
            refine wa_bipush (w_rg2 (by omega) (by omega)) ?_
            refine wb_pfi 215 rfl (wy_pr rfl) wt_215 wf_8_16 (n := 16) rfl ⟨(by omega), (by omega)⟩ ?_
            refine wa_return rfl ?_
            exact ⟨rfl, Or.inl ⟨by omega, rfl⟩⟩
          · skip
            refine wa_iload_n (n := 3) rfl ?_
            refine wa_ifeq (w_rg0 (by omega) (by omega)) ⟨_, rfl⟩ (fun c11 => ?_) (fun c11 => ?_)
            · skip
              refine wa_iload (n := 4) rfl ?_
              refine wa_ifeq (w_rg0 (by omega) (by omega)) ⟨_, rfl⟩ (fun c12 => ?_) (fun c12 => ?_)
              · skip
                refine wa_aload_n (n := 0) rfl ?_
                refine wb_gf4 158 rfl (wy_pr rfl) wt_158 wf_5_0 (v := 72) wl_158_0 ?_
                refine wa_iload_n (n := 1) rfl ?_
                refine wa_aload_n (n := 0) rfl ?_
                refine wb_gfi 158 rfl (wy_pr rfl) wt_158 wf_5_12 (v := en) (l12) (fun r13 => ?_)
                refine wa_cv 72 rfl (wy_pr rfl) wt_72 (M2 := mS [152]) rfl at_XH_addTrace ⟨_, rfl⟩ rfl rfl ⟨trivial, trivial, trivial, (Or.inr ⟨wy_pr rfl, mS_no rfl⟩), (Or.inr ⟨wy_pr rfl, mS_no rfl⟩), trivial, trivial⟩ trivial (fun _ _ q => mS_sub (by decide) q) (tra (S := S) (m := m) (k := en) hI ⟨by omega, by omega⟩ ⟨by omega, by omega⟩ (by rw [ht15]; exact ht0) (by rw [ht15]; exact ht9)) (fun oq14 Sq14 hp15 q14 => ?_)
                rcases q14 with ⟨rfl, tr14⟩
                show wJ _ _ _ _ _ _ _ _ _ _
                refine wa_aload_n (n := 0) rfl ?_
                refine wa_iconst ?_
                refine wb_pfi 158 rfl (wy_pr rfl) wt_158 wf_5_16 (n := 16) rfl ⟨(by omega), (by omega)⟩ ?_
                refine wa_aload_n (n := 0) rfl ?_
                refine wb_lconst (m := 0) rfl ?_
                refine wb_pfl 158 rfl (wy_pr rfl) wt_158 wf_5_17 (n := 17) rfl ⟨(by omega), (by omega)⟩ ?_
                refine wa_iload_n (n := 3) rfl ?_
                refine wa_ifeq (w_rg0 (by omega) (by omega)) ⟨_, rfl⟩ (fun c16 => ?_) (fun c16 => ?_)
                · skip
                  refine wa_aload_n (n := 2) rfl ?_
                  refine wb_gf4 73 rfl (wy_pr rfl) wt_73 wf_3_3 (v := 96) wl_73_3 ?_
                  refine wa_bipush (w_rg2 (by omega) (by omega)) ?_
                  refine wb_aald5 96 15 rfl rfl (wy_pr rfl) wt_96 (by rw [show _ = _ from ((w_up_slot (by decide)).trans ((w_up_slot (by decide)).trans (((tr14.2.2.2.1 96 (-1) (by decide) (by decide) (by decide) (Or.inl (by decide))).trans ((cl_96 hC))))))]; omega) wl_96_15 ?_
                  refine wa_iload_n (n := 1) rfl ?_
                  refine wb_iald 112 rfl (wy_pr rfl) wt_112 (n := 400) ((w_up_slot (by decide)).trans ((w_up_slot (by decide)).trans (((tr14.2.2.2.1 112 (-1) (by decide) (by decide) (by decide) (Or.inl (by decide))).trans ((cl_112 hC)))))) (by omega) (by omega) (v := fl) ((w_up_slot (by decide)).trans ((w_up_slot (by decide)).trans (((tr14.2.2.2.1 112 m (by decide) (by decide) (by decide) (Or.inl (by decide))).trans (hmf))))) (fun r17 => ?_)
                  refine wa_iconst ?_
                  refine wa_icmpeq (w_rg0 (by omega) (by omega)) (w_rg0 (by omega) (by omega)) ⟨_, rfl⟩ (fun c18 => ?_) (fun c18 => ?_)
                  · skip
                    exact absurd c18 (by omega)
                  · skip
                    refine wa_aload_n (n := 0) rfl ?_
                    refine wa_iload_n (n := 1) rfl ?_
                    refine wa_aload_n (n := 2) rfl ?_
                    refine wb_gf4 73 rfl (wy_pr rfl) wt_73 wf_3_3 (v := 96) wl_73_3 ?_
                    refine wa_bipush (w_rg2 (by omega) (by omega)) ?_
                    refine wb_aald5 96 15 rfl rfl (wy_pr rfl) wt_96 (by rw [show _ = _ from ((w_up_slot (by decide)).trans ((w_up_slot (by decide)).trans (((tr14.2.2.2.1 96 (-1) (by decide) (by decide) (by decide) (Or.inl (by decide))).trans ((cl_96 hC))))))]; omega) wl_96_15 ?_
                    refine wa_iload_n (n := 1) rfl ?_
                    refine wb_iald 112 rfl (wy_pr rfl) wt_112 (n := 400) ((w_up_slot (by decide)).trans ((w_up_slot (by decide)).trans (((tr14.2.2.2.1 112 (-1) (by decide) (by decide) (by decide) (Or.inl (by decide))).trans ((cl_112 hC)))))) (by omega) (by omega) (v := fl) ((w_up_slot (by decide)).trans ((w_up_slot (by decide)).trans (((tr14.2.2.2.1 112 m (by decide) (by decide) (by decide) (Or.inl (by decide))).trans (hmf))))) (fun r19 => ?_)
                    have hf2 : ∀ (j : Nat) (i : Int), j < 4000000 → j ≠ wG → j ≠ 152 → j ≠ 72 → j ≠ 158 → (w_up (w_up Sq14 158 16 0) 158 17 0) j i = S j i := fun j i a b c d e => (w_up_no (fun z => e z.1)).trans ((w_up_no (fun z => e z.1)).trans (tr14.2.2.2.1 j i a b c (Or.inl d)))
                    have el : (w_up (w_up Sq14 158 16 0) 158 17 0) 117 (-1) = S 117 (-1) := (hf2 117 _ (by first | decide | omega) (by first | decide | omega) (by first | decide | omega) (by first | decide | omega) (by first | decide | omega))
                    have el2 : (w_up (w_up Sq14 158 16 0) 158 17 0) 118 (-1) = S 118 (-1) := (hf2 118 _ (by first | decide | omega) (by first | decide | omega) (by first | decide | omega) (by first | decide | omega) (by first | decide | omega))
                    have el8 : (w_up (w_up Sq14 158 16 0) 158 17 0) 217 (-1) = S 217 (-1) := (hf2 217 _ (by first | decide | omega) (by first | decide | omega) (by first | decide | omega) (by first | decide | omega) (by first | decide | omega))
                    have el9 : (w_up (w_up Sq14 158 16 0) 158 17 0) 218 (-1) = S 218 (-1) := (hf2 218 _ (by first | decide | omega) (by first | decide | omega) (by first | decide | omega) (by first | decide | omega) (by first | decide | omega))
                    refine wa_cv 158 rfl (wy_pr rfl) wt_158 (M2 := fun _ => False) rfl at_XL_useField ⟨_, rfl⟩ rfl rfl ⟨trivial, trivial, trivial, (Or.inr ⟨wy_pr rfl, fun q => q⟩), (Or.inr ⟨wy_pr rfl, fun q => q⟩), trivial, trivial⟩ trivial (fun _ _ q => False.elim q) (uss1_73_215 (S := (w_up (w_up Sq14 158 16 0) 158 17 0)) (m := m) (f := fl) (w_CL_up (w_CL_up (CL_tr hC tr14) (by omega)) (by omega)) ((w_up_slot (by decide)).trans ((w_up_slot (by decide)).trans (((tr14.2.2.2.1 72 1 (by decide) (by decide) (by decide) (Or.inr (by decide))).trans (h72))))) ((w_up_at (by decide)).trans ((w_up_at (by decide)).trans (((tr14.2.2.2.1 158 5 (by decide) (by decide) (by decide) (Or.inl (by decide))).trans (l5))))) ((w_up_at (by decide)).trans ((w_up_at (by decide)).trans (((tr14.2.2.2.1 158 8 (by decide) (by decide) (by decide) (Or.inl (by decide))).trans (l8))))) (((w_up_at (by decide)).trans ((w_up_at (by decide)).trans ((tr14.2.2.2.1 158 10 (by decide) (by decide) (by decide) (Or.inl (by decide)))))).trans l10) hm hfl ((hf2 99 _ (by decide) (by decide) (by decide) (by decide) (by decide)).trans hstt) ((hf2 112 _ (by decide) (by decide) (by decide) (by decide) (by decide)).trans hfi) (by rw [el, el2]; exact hrl) (by rw [el]; exact hrb) ((hf2 101 _ (by decide) (by decide) (by decide) (by decide) (by decide)).trans hmc) (by rw [el8, el9]; exact bl1) (by rw [el8]; exact ⟨by omega, by omega, bl3⟩) ((hf2 217 _ (by decide) (by decide) (by decide) (by decide) (by decide)).trans hk1) ((hf2 218 _ (by decide) (by decide) (by decide) (by decide) (by decide)).trans hv1)) (fun oq20 Sq20 hp21 q20 => ?_)
                    rcases q20 with ⟨rfl, rfl⟩
                    show wJ _ _ _ _ _ _ _ _ _ _
                    refine wa_goto ⟨_, rfl⟩ ?_
                    refine wa_aload_n (n := 0) rfl ?_
                    refine wb_gfi 158 rfl (wy_pr rfl) wt_158 wf_5_7 (v := kd) ((w_up_slot (by decide)).trans ((w_up_slot (by decide)).trans ((w_up_at (by decide)).trans ((w_up_at (by decide)).trans (((tr14.2.2.2.1 158 7 (by decide) (by decide) (by decide) (Or.inl (by decide))).trans (l7))))))) (fun r22 => ?_)
                    refine wa_iconst ?_
                    refine wa_icmpne (w_rg0 (by omega) (by omega)) (w_rg0 (by omega) (by omega)) ⟨_, rfl⟩ (fun c23 => ?_) (fun c23 => ?_)
                    · skip
                      refine wa_aload_n (n := 0) rfl ?_
                      refine wa_aload_n (n := 0) rfl ?_
                      refine wb_gfi 158 rfl (wy_pr rfl) wt_158 wf_5_16 (v := 0) ((w_up_slot (by decide)).trans ((w_up_slot (by decide)).trans ((w_up_at (by decide)).trans (w_up_same _ _ _ _)))) (fun r24 => ?_)
                      refine wa_aload_n (n := 0) rfl ?_
                      refine wb_gfl 158 rfl (wy_pr rfl) wt_158 wf_5_17 (v := 0) ((w_up_slot (by decide)).trans ((w_up_slot (by decide)).trans (w_up_same _ _ _ _))) (fun r25 => ?_)
                      refine wa_cv 158 rfl (wy_pr rfl) wt_158 (M2 := mS [217, 218]) rfl at_XL_giveValue ⟨_, rfl⟩ rfl rfl ⟨trivial, trivial, trivial, (Or.inr ⟨wy_pr rfl, mS_no rfl⟩), (Or.inr ⟨wy_pr rfl, mS_no rfl⟩), trivial, trivial⟩ trivial (fun _ _ q => mS_sub (by decide) q) (glx_215 (S := (w_up (w_up (w_up (w_up Sq14 158 16 0) 158 17 0) 117 fi k1) 118 fi v1)) (k := 0) (v := 0) (h := h) (c := c) (p := p) (ba := ba) (w_CL_up (w_CL_up (w_CL_up (w_CL_up (CL_tr hC tr14) (by omega)) (by omega)) (by omega)) (by omega)) (gI_up (gI_up (gI_up (gI_up tr14.2.2.2.2.2.1 (by omega) (by omega) (by omega)) (by omega) (by omega) (by omega)) (by omega) (by omega) (by omega)) (by omega) (by omega) (by omega)) ((w_up_slot (by decide)).trans ((w_up_slot (by decide)).trans ((w_up_at (by decide)).trans ((w_up_at (by decide)).trans (((tr14.2.2.2.1 158 4 (by decide) (by decide) (by decide) (Or.inl (by decide))).trans (l4))))))) ((w_up_slot (by decide)).trans ((w_up_slot (by decide)).trans ((w_up_at (by decide)).trans ((w_up_at (by decide)).trans (((tr14.2.2.2.1 158 5 (by decide) (by decide) (by decide) (Or.inl (by decide))).trans (l5))))))) ((w_up_slot (by decide)).trans ((w_up_slot (by decide)).trans ((w_up_at (by decide)).trans ((w_up_at (by decide)).trans (((tr14.2.2.2.1 158 8 (by decide) (by decide) (by decide) (Or.inl (by decide))).trans (l8))))))) ((w_up_slot (by decide)).trans ((w_up_slot (by decide)).trans ((w_up_slot (by decide)).trans ((w_up_slot (by decide)).trans (((tr14.2.2.2.1 215 4 (by decide) (by decide) (by decide) (Or.inl (by decide))).trans (bc))))))) ((w_up_slot (by decide)).trans ((w_up_slot (by decide)).trans ((w_up_slot (by decide)).trans ((w_up_slot (by decide)).trans (((tr14.2.2.2.1 220 (c - 1) (by decide) (by decide) (by decide) (Or.inl (by decide))).trans (bp))))))) ((((w_up_slot (by decide)).trans ((w_up_slot (by decide)).trans ((w_up_slot (by decide)).trans ((w_up_slot (by decide)).trans (((tr14.2.2.2.1 218 (-1) (by decide) (by decide) (by decide) (Or.inl (by decide))).trans (bl1)))))))).trans (((w_up_slot (by decide)).trans ((w_up_slot (by decide)).trans ((w_up_slot (by decide)).trans ((w_up_slot (by decide)).trans (((tr14.2.2.2.1 217 (-1) (by decide) (by decide) (by decide) (Or.inl (by decide))).trans (rfl)))))))).symm) (by have e : (w_up (w_up (w_up (w_up Sq14 158 16 0) 158 17 0) 117 fi k1) 118 fi v1) 217 (-1) = S 217 (-1) := ((w_up_slot (by decide)).trans ((w_up_slot (by decide)).trans ((w_up_slot (by decide)).trans ((w_up_slot (by decide)).trans (((tr14.2.2.2.1 217 (-1) (by decide) (by decide) (by decide) (Or.inl (by decide))).trans (rfl))))))); rw [e]; exact ⟨bl2, bl3⟩) (by have e : (w_up (w_up (w_up (w_up Sq14 158 16 0) 158 17 0) 117 fi k1) 118 fi v1) 217 (-1) = S 217 (-1) := ((w_up_slot (by decide)).trans ((w_up_slot (by decide)).trans ((w_up_slot (by decide)).trans ((w_up_slot (by decide)).trans (((tr14.2.2.2.1 217 (-1) (by decide) (by decide) (by decide) (Or.inl (by decide))).trans (rfl))))))); omega) ⟨by omega, by omega⟩ ⟨by omega, by omega⟩ ⟨by omega, by omega⟩ ⟨by omega, by omega⟩) (fun oq26 Sq26 hp27 q26 => ?_)
                      rcases q26 with ⟨rfl, hgv26⟩
                      show wJ _ _ _ _ _ _ _ _ _ _
                      refine wa_return rfl ?_
                      refine ⟨rfl, Or.inr ⟨by omega, Sq14, (w_up (w_up (w_up (w_up Sq14 158 16 0) 158 17 0) 117 fi k1) 118 fi v1), tr14, ?_, ?_⟩⟩
                      · exact fun j i hji => w_up_cg2 (w_up_cg2 ((w_up_no (by omega)).trans (w_up_no (by omega))))
                      · first | (rw [if_pos (show kd = 1 by omega), if_pos (show kd = 1 by omega)]; exact hgv26) | (rw [if_neg (show ¬ kd = 1 by omega), if_neg (show ¬ kd = 1 by omega)]; exact hgv26)
                    · skip
                      refine wa_aload_n (n := 0) rfl ?_
                      refine wa_aload_n (n := 0) rfl ?_
                      refine wb_gf5 158 rfl (wy_pr rfl) wt_158 wf_5_5 (v := 216) ((w_up_slot (by decide)).trans ((w_up_slot (by decide)).trans ((w_up_at (by decide)).trans ((w_up_at (by decide)).trans (((tr14.2.2.2.1 158 5 (by decide) (by decide) (by decide) (Or.inl (by decide))).trans (l5))))))) (fun r28 => ?_)
                      refine wb_gf4 216 rfl (wy_pr rfl) wt_216 wf_7_0 (v := 217) wl_216_0 ?_
                      refine wa_aload_n (n := 0) rfl ?_
                      refine wb_gf5 158 rfl (wy_pr rfl) wt_158 wf_5_5 (v := 216) ((w_up_slot (by decide)).trans ((w_up_slot (by decide)).trans ((w_up_at (by decide)).trans ((w_up_at (by decide)).trans (((tr14.2.2.2.1 158 5 (by decide) (by decide) (by decide) (Or.inl (by decide))).trans (l5))))))) (fun r29 => ?_)
                      refine wb_gfi 216 rfl (wy_pr rfl) wt_216 wf_7_2 (v := h) ((w_up_slot (by decide)).trans ((w_up_slot (by decide)).trans ((w_up_slot (by decide)).trans ((w_up_slot (by decide)).trans (((tr14.2.2.2.1 216 2 (by decide) (by decide) (by decide) (Or.inl (by decide))).trans (bh))))))) (fun r30 => ?_)
                      refine wa_iconst ?_
                      refine wa_isub ?_
                      refine wb_bald 217 rfl (wy_pr rfl) wt_217 (n := (S 217 (-1))) ((w_up_slot (by decide)).trans ((w_up_slot (by decide)).trans ((w_up_slot (by decide)).trans ((w_up_slot (by decide)).trans (((tr14.2.2.2.1 217 (-1) (by decide) (by decide) (by decide) (Or.inl (by decide))).trans (rfl))))))) (by omega) (by omega) (v := ky) ((w_up_slot (by decide)).trans ((w_up_slot (by decide)).trans ((w_up_slot (by decide)).trans ((w_up_slot (by decide)).trans (((tr14.2.2.2.1 217 (h - 1) (by decide) (by decide) (by decide) (Or.inl (by decide))).trans (hky))))))) (fun r31 => ?_)
                      refine wb_pfi 158 rfl (wy_pr rfl) wt_158 wf_5_16 (n := 16) rfl ⟨(by omega), (by omega)⟩ ?_
                      refine wa_aload_n (n := 0) rfl ?_
                      refine wa_aload_n (n := 0) rfl ?_
                      refine wb_gf5 158 rfl (wy_pr rfl) wt_158 wf_5_5 (v := 216) ((w_up_at (by decide)).trans ((w_up_slot (by decide)).trans ((w_up_slot (by decide)).trans ((w_up_at (by decide)).trans ((w_up_at (by decide)).trans (((tr14.2.2.2.1 158 5 (by decide) (by decide) (by decide) (Or.inl (by decide))).trans (l5)))))))) (fun r32 => ?_)
                      refine wb_gf4 216 rfl (wy_pr rfl) wt_216 wf_7_1 (v := 218) wl_216_1 ?_
                      refine wa_aload_n (n := 0) rfl ?_
                      refine wb_gf5 158 rfl (wy_pr rfl) wt_158 wf_5_5 (v := 216) ((w_up_at (by decide)).trans ((w_up_slot (by decide)).trans ((w_up_slot (by decide)).trans ((w_up_at (by decide)).trans ((w_up_at (by decide)).trans (((tr14.2.2.2.1 158 5 (by decide) (by decide) (by decide) (Or.inl (by decide))).trans (l5)))))))) (fun r33 => ?_)
                      refine wb_gfi 216 rfl (wy_pr rfl) wt_216 wf_7_2 (v := h) ((w_up_slot (by decide)).trans ((w_up_slot (by decide)).trans ((w_up_slot (by decide)).trans ((w_up_slot (by decide)).trans ((w_up_slot (by decide)).trans (((tr14.2.2.2.1 216 2 (by decide) (by decide) (by decide) (Or.inl (by decide))).trans (bh)))))))) (fun r34 => ?_)
                      refine wa_iconst ?_
                      refine wa_isub ?_
                      refine wb_lald 218 rfl (wy_pr rfl) wt_218 (n := (S 217 (-1))) ((w_up_slot (by decide)).trans ((w_up_slot (by decide)).trans ((w_up_slot (by decide)).trans ((w_up_slot (by decide)).trans ((w_up_slot (by decide)).trans (((tr14.2.2.2.1 218 (-1) (by decide) (by decide) (by decide) (Or.inl (by decide))).trans (bl1)))))))) (by omega) (by omega) (v := vy) ((w_up_slot (by decide)).trans ((w_up_slot (by decide)).trans ((w_up_slot (by decide)).trans ((w_up_slot (by decide)).trans ((w_up_slot (by decide)).trans (((tr14.2.2.2.1 218 (h - 1) (by decide) (by decide) (by decide) (Or.inl (by decide))).trans (hvy)))))))) (fun r35 => ?_)
                      refine wb_pfl 158 rfl (wy_pr rfl) wt_158 wf_5_17 (n := 17) rfl ⟨(by omega), (by omega)⟩ ?_
                      refine wa_fall ⟨_, rfl⟩ ?_
                      refine wa_aload_n (n := 0) rfl ?_
                      refine wa_aload_n (n := 0) rfl ?_
                      refine wb_gfi 158 rfl (wy_pr rfl) wt_158 wf_5_16 (v := ky) ((w_up_at (by decide)).trans (w_up_same _ _ _ _)) (fun r36 => ?_)
                      refine wa_aload_n (n := 0) rfl ?_
                      refine wb_gfl 158 rfl (wy_pr rfl) wt_158 wf_5_17 (v := vy) (w_up_same _ _ _ _) (fun r37 => ?_)
                      refine wa_cv 158 rfl (wy_pr rfl) wt_158 (M2 := mS [217, 218]) rfl at_XL_giveValue ⟨_, rfl⟩ rfl rfl ⟨trivial, trivial, trivial, (Or.inr ⟨wy_pr rfl, mS_no rfl⟩), (Or.inr ⟨wy_pr rfl, mS_no rfl⟩), trivial, trivial⟩ trivial (fun _ _ q => mS_sub (by decide) q) (glx_215 (S := (w_up (w_up (w_up (w_up (w_up (w_up Sq14 158 16 0) 158 17 0) 117 fi k1) 118 fi v1) 158 16 ky) 158 17 vy)) (k := ky) (v := vy) (h := h) (c := c) (p := p) (ba := ba) (w_CL_up (w_CL_up (w_CL_up (w_CL_up (w_CL_up (w_CL_up (CL_tr hC tr14) (by omega)) (by omega)) (by omega)) (by omega)) (by omega)) (by omega)) (gI_up (gI_up (gI_up (gI_up (gI_up (gI_up tr14.2.2.2.2.2.1 (by omega) (by omega) (by omega)) (by omega) (by omega) (by omega)) (by omega) (by omega) (by omega)) (by omega) (by omega) (by omega)) (by omega) (by omega) (by omega)) (by omega) (by omega) (by omega)) ((w_up_at (by decide)).trans ((w_up_at (by decide)).trans ((w_up_slot (by decide)).trans ((w_up_slot (by decide)).trans ((w_up_at (by decide)).trans ((w_up_at (by decide)).trans (((tr14.2.2.2.1 158 4 (by decide) (by decide) (by decide) (Or.inl (by decide))).trans (l4))))))))) ((w_up_at (by decide)).trans ((w_up_at (by decide)).trans ((w_up_slot (by decide)).trans ((w_up_slot (by decide)).trans ((w_up_at (by decide)).trans ((w_up_at (by decide)).trans (((tr14.2.2.2.1 158 5 (by decide) (by decide) (by decide) (Or.inl (by decide))).trans (l5))))))))) ((w_up_at (by decide)).trans ((w_up_at (by decide)).trans ((w_up_slot (by decide)).trans ((w_up_slot (by decide)).trans ((w_up_at (by decide)).trans ((w_up_at (by decide)).trans (((tr14.2.2.2.1 158 8 (by decide) (by decide) (by decide) (Or.inl (by decide))).trans (l8))))))))) ((w_up_slot (by decide)).trans ((w_up_slot (by decide)).trans ((w_up_slot (by decide)).trans ((w_up_slot (by decide)).trans ((w_up_slot (by decide)).trans ((w_up_slot (by decide)).trans (((tr14.2.2.2.1 215 4 (by decide) (by decide) (by decide) (Or.inl (by decide))).trans (bc))))))))) ((w_up_slot (by decide)).trans ((w_up_slot (by decide)).trans ((w_up_slot (by decide)).trans ((w_up_slot (by decide)).trans ((w_up_slot (by decide)).trans ((w_up_slot (by decide)).trans (((tr14.2.2.2.1 220 (c - 1) (by decide) (by decide) (by decide) (Or.inl (by decide))).trans (bp))))))))) ((((w_up_slot (by decide)).trans ((w_up_slot (by decide)).trans ((w_up_slot (by decide)).trans ((w_up_slot (by decide)).trans ((w_up_slot (by decide)).trans ((w_up_slot (by decide)).trans (((tr14.2.2.2.1 218 (-1) (by decide) (by decide) (by decide) (Or.inl (by decide))).trans (bl1)))))))))).trans (((w_up_slot (by decide)).trans ((w_up_slot (by decide)).trans ((w_up_slot (by decide)).trans ((w_up_slot (by decide)).trans ((w_up_slot (by decide)).trans ((w_up_slot (by decide)).trans (((tr14.2.2.2.1 217 (-1) (by decide) (by decide) (by decide) (Or.inl (by decide))).trans (rfl)))))))))).symm) (by have e : (w_up (w_up (w_up (w_up (w_up (w_up Sq14 158 16 0) 158 17 0) 117 fi k1) 118 fi v1) 158 16 ky) 158 17 vy) 217 (-1) = S 217 (-1) := ((w_up_slot (by decide)).trans ((w_up_slot (by decide)).trans ((w_up_slot (by decide)).trans ((w_up_slot (by decide)).trans ((w_up_slot (by decide)).trans ((w_up_slot (by decide)).trans (((tr14.2.2.2.1 217 (-1) (by decide) (by decide) (by decide) (Or.inl (by decide))).trans (rfl))))))))); rw [e]; exact ⟨bl2, bl3⟩) (by have e : (w_up (w_up (w_up (w_up (w_up (w_up Sq14 158 16 0) 158 17 0) 117 fi k1) 118 fi v1) 158 16 ky) 158 17 vy) 217 (-1) = S 217 (-1) := ((w_up_slot (by decide)).trans ((w_up_slot (by decide)).trans ((w_up_slot (by decide)).trans ((w_up_slot (by decide)).trans ((w_up_slot (by decide)).trans ((w_up_slot (by decide)).trans (((tr14.2.2.2.1 217 (-1) (by decide) (by decide) (by decide) (Or.inl (by decide))).trans (rfl))))))))); omega) ⟨by omega, by omega⟩ ⟨by omega, by omega⟩ ⟨by omega, by omega⟩ ⟨by omega, by omega⟩) (fun oq38 Sq38 hp39 q38 => ?_)
                      rcases q38 with ⟨rfl, hgv38⟩
                      show wJ _ _ _ _ _ _ _ _ _ _
                      refine wa_return rfl ?_
                      refine ⟨rfl, Or.inr ⟨by omega, Sq14, (w_up (w_up (w_up (w_up (w_up (w_up Sq14 158 16 0) 158 17 0) 117 fi k1) 118 fi v1) 158 16 ky) 158 17 vy), tr14, ?_, ?_⟩⟩
                      · exact fun j i hji => (w_up_no (by omega)).trans ((w_up_no (by omega)).trans (w_up_cg2 (w_up_cg2 ((w_up_no (by omega)).trans (w_up_no (by omega))))))
                      · first | (rw [if_pos (show kd = 1 by omega), if_pos (show kd = 1 by omega)]; exact hgv38) | (rw [if_neg (show ¬ kd = 1 by omega), if_neg (show ¬ kd = 1 by omega)]; exact hgv38)
                · skip
                  exact absurd c16 (by omega)
              · skip
                exact absurd c12 (by omega)
            · skip
              exact absurd c11 (by omega)
        · skip
          exact absurd c7 (by omega)
      · skip
        refine wa_aload_n (n := 2) rfl ?_
        refine wb_gf4 73 rfl (wy_pr rfl) wt_73 wf_3_3 (v := 96) wl_73_3 ?_
        refine wa_bipush (w_rg2 (by omega) (by omega)) ?_
        refine wb_aald5 96 15 rfl rfl (wy_pr rfl) wt_96 (by rw [show _ = _ from ((cl_96 hC))]; omega) wl_96_15 ?_
        refine wa_iload_n (n := 1) rfl ?_
        refine wb_iald 112 rfl (wy_pr rfl) wt_112 (n := 400) ((cl_112 hC)) (by omega) (by omega) (v := fl) (hmf) (fun r40 => ?_)
        refine wa_iconst ?_
        refine wa_icmpne (w_rg0 (by omega) (by omega)) (w_rg0 (by omega) (by omega)) ⟨_, rfl⟩ (fun c41 => ?_) (fun c41 => ?_)
        · skip
          refine wa_iconst ?_
          refine wa_fall ⟨_, rfl⟩ ?_
          refine wa_istore (n := 4) rfl ?_
          refine wa_iload_n (n := 3) rfl ?_
          refine wa_ifeq (w_rg0 (by omega) (by omega)) ⟨_, rfl⟩ (fun c42 => ?_) (fun c42 => ?_)
          · skip
            refine wa_iconst ?_
            refine wa_fall ⟨_, rfl⟩ ?_
            refine wa_istore (n := 5) rfl ?_
            refine wa_aload_n (n := 0) rfl ?_
            refine wb_gf4 158 rfl (wy_pr rfl) wt_158 wf_5_0 (v := 72) wl_158_0 ?_
            refine wb_gfi 72 rfl (wy_pr rfl) wt_72 wf_2_15 (v := tn) (ht15) (fun r43 => ?_)
            refine wa_iconst ?_
            refine wa_iadd ?_
            refine wb_ki (n := 100000) rfl ?_
            refine wa_icmpgt (w_rg0 (by omega) (by omega)) (w_rg0 (by omega) (by omega)) ⟨_, rfl⟩ (fun c44 => ?_) (fun c44 => ?_)
            · skip
              refine wa_aload_n (n := 0) rfl ?_
              refine wb_gf5 158 rfl (wy_pr rfl) wt_158 wf_5_4 (v := 215) (l4) (fun r45 => ?_)
              refine wa_bipush (w_rg2 (by omega) (by omega)) ?_
              refine wb_pfi 215 rfl (wy_pr rfl) wt_215 wf_8_16 (n := 16) rfl ⟨(by omega), (by omega)⟩ ?_
              refine wa_return rfl ?_
              exact ⟨rfl, Or.inl ⟨by omega, rfl⟩⟩
            · skip
              refine wa_iload_n (n := 3) rfl ?_
              refine wa_ifeq (w_rg0 (by omega) (by omega)) ⟨_, rfl⟩ (fun c46 => ?_) (fun c46 => ?_)
              · skip
                refine wa_iload (n := 4) rfl ?_
                refine wa_ifeq (w_rg0 (by omega) (by omega)) ⟨_, rfl⟩ (fun c47 => ?_) (fun c47 => ?_)
                · skip
                  refine wa_aload_n (n := 0) rfl ?_
                  refine wb_gf4 158 rfl (wy_pr rfl) wt_158 wf_5_0 (v := 72) wl_158_0 ?_
                  refine wa_iload_n (n := 1) rfl ?_
                  refine wa_aload_n (n := 0) rfl ?_
                  refine wb_gfi 158 rfl (wy_pr rfl) wt_158 wf_5_12 (v := en) (l12) (fun r48 => ?_)
                  refine wa_cv 72 rfl (wy_pr rfl) wt_72 (M2 := mS [152]) rfl at_XH_addTrace ⟨_, rfl⟩ rfl rfl ⟨trivial, trivial, trivial, (Or.inr ⟨wy_pr rfl, mS_no rfl⟩), (Or.inr ⟨wy_pr rfl, mS_no rfl⟩), trivial, trivial⟩ trivial (fun _ _ q => mS_sub (by decide) q) (tra (S := S) (m := m) (k := en) hI ⟨by omega, by omega⟩ ⟨by omega, by omega⟩ (by rw [ht15]; exact ht0) (by rw [ht15]; exact ht9)) (fun oq49 Sq49 hp50 q49 => ?_)
                  rcases q49 with ⟨rfl, tr49⟩
                  show wJ _ _ _ _ _ _ _ _ _ _
                  refine wa_aload_n (n := 0) rfl ?_
                  refine wa_iconst ?_
                  refine wb_pfi 158 rfl (wy_pr rfl) wt_158 wf_5_16 (n := 16) rfl ⟨(by omega), (by omega)⟩ ?_
                  refine wa_aload_n (n := 0) rfl ?_
                  refine wb_lconst (m := 0) rfl ?_
                  refine wb_pfl 158 rfl (wy_pr rfl) wt_158 wf_5_17 (n := 17) rfl ⟨(by omega), (by omega)⟩ ?_
                  refine wa_iload_n (n := 3) rfl ?_
                  refine wa_ifeq (w_rg0 (by omega) (by omega)) ⟨_, rfl⟩ (fun c51 => ?_) (fun c51 => ?_)
                  · skip
                    refine wa_aload_n (n := 2) rfl ?_
                    refine wb_gf4 73 rfl (wy_pr rfl) wt_73 wf_3_3 (v := 96) wl_73_3 ?_
                    refine wa_bipush (w_rg2 (by omega) (by omega)) ?_
                    refine wb_aald5 96 15 rfl rfl (wy_pr rfl) wt_96 (by rw [show _ = _ from ((w_up_slot (by decide)).trans ((w_up_slot (by decide)).trans (((tr49.2.2.2.1 96 (-1) (by decide) (by decide) (by decide) (Or.inl (by decide))).trans ((cl_96 hC))))))]; omega) wl_96_15 ?_
                    refine wa_iload_n (n := 1) rfl ?_
                    refine wb_iald 112 rfl (wy_pr rfl) wt_112 (n := 400) ((w_up_slot (by decide)).trans ((w_up_slot (by decide)).trans (((tr49.2.2.2.1 112 (-1) (by decide) (by decide) (by decide) (Or.inl (by decide))).trans ((cl_112 hC)))))) (by omega) (by omega) (v := fl) ((w_up_slot (by decide)).trans ((w_up_slot (by decide)).trans (((tr49.2.2.2.1 112 m (by decide) (by decide) (by decide) (Or.inl (by decide))).trans (hmf))))) (fun r52 => ?_)
                    refine wa_iconst ?_
                    refine wa_icmpeq (w_rg0 (by omega) (by omega)) (w_rg0 (by omega) (by omega)) ⟨_, rfl⟩ (fun c53 => ?_) (fun c53 => ?_)
                    · skip
                      exact absurd c53 (by omega)
                    · skip
                      refine wa_aload_n (n := 0) rfl ?_
                      refine wa_iload_n (n := 1) rfl ?_
                      refine wa_aload_n (n := 2) rfl ?_
                      refine wb_gf4 73 rfl (wy_pr rfl) wt_73 wf_3_3 (v := 96) wl_73_3 ?_
                      refine wa_bipush (w_rg2 (by omega) (by omega)) ?_
                      refine wb_aald5 96 15 rfl rfl (wy_pr rfl) wt_96 (by rw [show _ = _ from ((w_up_slot (by decide)).trans ((w_up_slot (by decide)).trans (((tr49.2.2.2.1 96 (-1) (by decide) (by decide) (by decide) (Or.inl (by decide))).trans ((cl_96 hC))))))]; omega) wl_96_15 ?_
                      refine wa_iload_n (n := 1) rfl ?_
                      refine wb_iald 112 rfl (wy_pr rfl) wt_112 (n := 400) ((w_up_slot (by decide)).trans ((w_up_slot (by decide)).trans (((tr49.2.2.2.1 112 (-1) (by decide) (by decide) (by decide) (Or.inl (by decide))).trans ((cl_112 hC)))))) (by omega) (by omega) (v := fl) ((w_up_slot (by decide)).trans ((w_up_slot (by decide)).trans (((tr49.2.2.2.1 112 m (by decide) (by decide) (by decide) (Or.inl (by decide))).trans (hmf))))) (fun r54 => ?_)
                      have hf2 : ∀ (j : Nat) (i : Int), j < 4000000 → j ≠ wG → j ≠ 152 → j ≠ 72 → j ≠ 158 → (w_up (w_up Sq49 158 16 0) 158 17 0) j i = S j i := fun j i a b c d e => (w_up_no (fun z => e z.1)).trans ((w_up_no (fun z => e z.1)).trans (tr49.2.2.2.1 j i a b c (Or.inl d)))
                      have el : (w_up (w_up Sq49 158 16 0) 158 17 0) 117 (-1) = S 117 (-1) := (hf2 117 _ (by first | decide | omega) (by first | decide | omega) (by first | decide | omega) (by first | decide | omega) (by first | decide | omega))
                      have el2 : (w_up (w_up Sq49 158 16 0) 158 17 0) 118 (-1) = S 118 (-1) := (hf2 118 _ (by first | decide | omega) (by first | decide | omega) (by first | decide | omega) (by first | decide | omega) (by first | decide | omega))
                      have el8 : (w_up (w_up Sq49 158 16 0) 158 17 0) 217 (-1) = S 217 (-1) := (hf2 217 _ (by first | decide | omega) (by first | decide | omega) (by first | decide | omega) (by first | decide | omega) (by first | decide | omega))
                      have el9 : (w_up (w_up Sq49 158 16 0) 158 17 0) 218 (-1) = S 218 (-1) := (hf2 218 _ (by first | decide | omega) (by first | decide | omega) (by first | decide | omega) (by first | decide | omega) (by first | decide | omega))
                      refine wa_cv 158 rfl (wy_pr rfl) wt_158 (M2 := fun _ => False) rfl at_XL_useField ⟨_, rfl⟩ rfl rfl ⟨trivial, trivial, trivial, (Or.inr ⟨wy_pr rfl, fun q => q⟩), (Or.inr ⟨wy_pr rfl, fun q => q⟩), trivial, trivial⟩ trivial (fun _ _ q => False.elim q) (uss1_73_215 (S := (w_up (w_up Sq49 158 16 0) 158 17 0)) (m := m) (f := fl) (w_CL_up (w_CL_up (CL_tr hC tr49) (by omega)) (by omega)) ((w_up_slot (by decide)).trans ((w_up_slot (by decide)).trans (((tr49.2.2.2.1 72 1 (by decide) (by decide) (by decide) (Or.inr (by decide))).trans (h72))))) ((w_up_at (by decide)).trans ((w_up_at (by decide)).trans (((tr49.2.2.2.1 158 5 (by decide) (by decide) (by decide) (Or.inl (by decide))).trans (l5))))) ((w_up_at (by decide)).trans ((w_up_at (by decide)).trans (((tr49.2.2.2.1 158 8 (by decide) (by decide) (by decide) (Or.inl (by decide))).trans (l8))))) (((w_up_at (by decide)).trans ((w_up_at (by decide)).trans ((tr49.2.2.2.1 158 10 (by decide) (by decide) (by decide) (Or.inl (by decide)))))).trans l10) hm hfl ((hf2 99 _ (by decide) (by decide) (by decide) (by decide) (by decide)).trans hstt) ((hf2 112 _ (by decide) (by decide) (by decide) (by decide) (by decide)).trans hfi) (by rw [el, el2]; exact hrl) (by rw [el]; exact hrb) ((hf2 101 _ (by decide) (by decide) (by decide) (by decide) (by decide)).trans hmc) (by rw [el8, el9]; exact bl1) (by rw [el8]; exact ⟨by omega, by omega, bl3⟩) ((hf2 217 _ (by decide) (by decide) (by decide) (by decide) (by decide)).trans hk1) ((hf2 218 _ (by decide) (by decide) (by decide) (by decide) (by decide)).trans hv1)) (fun oq55 Sq55 hp56 q55 => ?_)
                      rcases q55 with ⟨rfl, rfl⟩
                      show wJ _ _ _ _ _ _ _ _ _ _
                      refine wa_goto ⟨_, rfl⟩ ?_
                      refine wa_aload_n (n := 0) rfl ?_
                      refine wb_gfi 158 rfl (wy_pr rfl) wt_158 wf_5_7 (v := kd) ((w_up_slot (by decide)).trans ((w_up_slot (by decide)).trans ((w_up_at (by decide)).trans ((w_up_at (by decide)).trans (((tr49.2.2.2.1 158 7 (by decide) (by decide) (by decide) (Or.inl (by decide))).trans (l7))))))) (fun r57 => ?_)
                      refine wa_iconst ?_
                      refine wa_icmpne (w_rg0 (by omega) (by omega)) (w_rg0 (by omega) (by omega)) ⟨_, rfl⟩ (fun c58 => ?_) (fun c58 => ?_)
                      · skip
                        refine wa_aload_n (n := 0) rfl ?_
                        refine wa_aload_n (n := 0) rfl ?_
                        refine wb_gfi 158 rfl (wy_pr rfl) wt_158 wf_5_16 (v := 0) ((w_up_slot (by decide)).trans ((w_up_slot (by decide)).trans ((w_up_at (by decide)).trans (w_up_same _ _ _ _)))) (fun r59 => ?_)
                        refine wa_aload_n (n := 0) rfl ?_
                        refine wb_gfl 158 rfl (wy_pr rfl) wt_158 wf_5_17 (v := 0) ((w_up_slot (by decide)).trans ((w_up_slot (by decide)).trans (w_up_same _ _ _ _))) (fun r60 => ?_)
                        refine wa_cv 158 rfl (wy_pr rfl) wt_158 (M2 := mS [217, 218]) rfl at_XL_giveValue ⟨_, rfl⟩ rfl rfl ⟨trivial, trivial, trivial, (Or.inr ⟨wy_pr rfl, mS_no rfl⟩), (Or.inr ⟨wy_pr rfl, mS_no rfl⟩), trivial, trivial⟩ trivial (fun _ _ q => mS_sub (by decide) q) (glx_215 (S := (w_up (w_up (w_up (w_up Sq49 158 16 0) 158 17 0) 117 fi k1) 118 fi v1)) (k := 0) (v := 0) (h := h) (c := c) (p := p) (ba := ba) (w_CL_up (w_CL_up (w_CL_up (w_CL_up (CL_tr hC tr49) (by omega)) (by omega)) (by omega)) (by omega)) (gI_up (gI_up (gI_up (gI_up tr49.2.2.2.2.2.1 (by omega) (by omega) (by omega)) (by omega) (by omega) (by omega)) (by omega) (by omega) (by omega)) (by omega) (by omega) (by omega)) ((w_up_slot (by decide)).trans ((w_up_slot (by decide)).trans ((w_up_at (by decide)).trans ((w_up_at (by decide)).trans (((tr49.2.2.2.1 158 4 (by decide) (by decide) (by decide) (Or.inl (by decide))).trans (l4))))))) ((w_up_slot (by decide)).trans ((w_up_slot (by decide)).trans ((w_up_at (by decide)).trans ((w_up_at (by decide)).trans (((tr49.2.2.2.1 158 5 (by decide) (by decide) (by decide) (Or.inl (by decide))).trans (l5))))))) ((w_up_slot (by decide)).trans ((w_up_slot (by decide)).trans ((w_up_at (by decide)).trans ((w_up_at (by decide)).trans (((tr49.2.2.2.1 158 8 (by decide) (by decide) (by decide) (Or.inl (by decide))).trans (l8))))))) ((w_up_slot (by decide)).trans ((w_up_slot (by decide)).trans ((w_up_slot (by decide)).trans ((w_up_slot (by decide)).trans (((tr49.2.2.2.1 215 4 (by decide) (by decide) (by decide) (Or.inl (by decide))).trans (bc))))))) ((w_up_slot (by decide)).trans ((w_up_slot (by decide)).trans ((w_up_slot (by decide)).trans ((w_up_slot (by decide)).trans (((tr49.2.2.2.1 220 (c - 1) (by decide) (by decide) (by decide) (Or.inl (by decide))).trans (bp))))))) ((((w_up_slot (by decide)).trans ((w_up_slot (by decide)).trans ((w_up_slot (by decide)).trans ((w_up_slot (by decide)).trans (((tr49.2.2.2.1 218 (-1) (by decide) (by decide) (by decide) (Or.inl (by decide))).trans (bl1)))))))).trans (((w_up_slot (by decide)).trans ((w_up_slot (by decide)).trans ((w_up_slot (by decide)).trans ((w_up_slot (by decide)).trans (((tr49.2.2.2.1 217 (-1) (by decide) (by decide) (by decide) (Or.inl (by decide))).trans (rfl)))))))).symm) (by have e : (w_up (w_up (w_up (w_up Sq49 158 16 0) 158 17 0) 117 fi k1) 118 fi v1) 217 (-1) = S 217 (-1) := ((w_up_slot (by decide)).trans ((w_up_slot (by decide)).trans ((w_up_slot (by decide)).trans ((w_up_slot (by decide)).trans (((tr49.2.2.2.1 217 (-1) (by decide) (by decide) (by decide) (Or.inl (by decide))).trans (rfl))))))); rw [e]; exact ⟨bl2, bl3⟩) (by have e : (w_up (w_up (w_up (w_up Sq49 158 16 0) 158 17 0) 117 fi k1) 118 fi v1) 217 (-1) = S 217 (-1) := ((w_up_slot (by decide)).trans ((w_up_slot (by decide)).trans ((w_up_slot (by decide)).trans ((w_up_slot (by decide)).trans (((tr49.2.2.2.1 217 (-1) (by decide) (by decide) (by decide) (Or.inl (by decide))).trans (rfl))))))); omega) ⟨by omega, by omega⟩ ⟨by omega, by omega⟩ ⟨by omega, by omega⟩ ⟨by omega, by omega⟩) (fun oq61 Sq61 hp62 q61 => ?_)
                        rcases q61 with ⟨rfl, hgv61⟩
                        show wJ _ _ _ _ _ _ _ _ _ _
                        refine wa_return rfl ?_
                        refine ⟨rfl, Or.inr ⟨by omega, Sq49, (w_up (w_up (w_up (w_up Sq49 158 16 0) 158 17 0) 117 fi k1) 118 fi v1), tr49, ?_, ?_⟩⟩
                        · exact fun j i hji => w_up_cg2 (w_up_cg2 ((w_up_no (by omega)).trans (w_up_no (by omega))))
                        · first | (rw [if_pos (show kd = 1 by omega), if_pos (show kd = 1 by omega)]; exact hgv61) | (rw [if_neg (show ¬ kd = 1 by omega), if_neg (show ¬ kd = 1 by omega)]; exact hgv61)
                      · skip
                        refine wa_aload_n (n := 0) rfl ?_
                        refine wa_aload_n (n := 0) rfl ?_
                        refine wb_gf5 158 rfl (wy_pr rfl) wt_158 wf_5_5 (v := 216) ((w_up_slot (by decide)).trans ((w_up_slot (by decide)).trans ((w_up_at (by decide)).trans ((w_up_at (by decide)).trans (((tr49.2.2.2.1 158 5 (by decide) (by decide) (by decide) (Or.inl (by decide))).trans (l5))))))) (fun r63 => ?_)
                        refine wb_gf4 216 rfl (wy_pr rfl) wt_216 wf_7_0 (v := 217) wl_216_0 ?_
                        refine wa_aload_n (n := 0) rfl ?_
                        refine wb_gf5 158 rfl (wy_pr rfl) wt_158 wf_5_5 (v := 216) ((w_up_slot (by decide)).trans ((w_up_slot (by decide)).trans ((w_up_at (by decide)).trans ((w_up_at (by decide)).trans (((tr49.2.2.2.1 158 5 (by decide) (by decide) (by decide) (Or.inl (by decide))).trans (l5))))))) (fun r64 => ?_)
                        refine wb_gfi 216 rfl (wy_pr rfl) wt_216 wf_7_2 (v := h) ((w_up_slot (by decide)).trans ((w_up_slot (by decide)).trans ((w_up_slot (by decide)).trans ((w_up_slot (by decide)).trans (((tr49.2.2.2.1 216 2 (by decide) (by decide) (by decide) (Or.inl (by decide))).trans (bh))))))) (fun r65 => ?_)
                        refine wa_iconst ?_
                        refine wa_isub ?_
                        refine wb_bald 217 rfl (wy_pr rfl) wt_217 (n := (S 217 (-1))) ((w_up_slot (by decide)).trans ((w_up_slot (by decide)).trans ((w_up_slot (by decide)).trans ((w_up_slot (by decide)).trans (((tr49.2.2.2.1 217 (-1) (by decide) (by decide) (by decide) (Or.inl (by decide))).trans (rfl))))))) (by omega) (by omega) (v := ky) ((w_up_slot (by decide)).trans ((w_up_slot (by decide)).trans ((w_up_slot (by decide)).trans ((w_up_slot (by decide)).trans (((tr49.2.2.2.1 217 (h - 1) (by decide) (by decide) (by decide) (Or.inl (by decide))).trans (hky))))))) (fun r66 => ?_)
                        refine wb_pfi 158 rfl (wy_pr rfl) wt_158 wf_5_16 (n := 16) rfl ⟨(by omega), (by omega)⟩ ?_
                        refine wa_aload_n (n := 0) rfl ?_
                        refine wa_aload_n (n := 0) rfl ?_
                        refine wb_gf5 158 rfl (wy_pr rfl) wt_158 wf_5_5 (v := 216) ((w_up_at (by decide)).trans ((w_up_slot (by decide)).trans ((w_up_slot (by decide)).trans ((w_up_at (by decide)).trans ((w_up_at (by decide)).trans (((tr49.2.2.2.1 158 5 (by decide) (by decide) (by decide) (Or.inl (by decide))).trans (l5)))))))) (fun r67 => ?_)
                        refine wb_gf4 216 rfl (wy_pr rfl) wt_216 wf_7_1 (v := 218) wl_216_1 ?_
                        refine wa_aload_n (n := 0) rfl ?_
                        refine wb_gf5 158 rfl (wy_pr rfl) wt_158 wf_5_5 (v := 216) ((w_up_at (by decide)).trans ((w_up_slot (by decide)).trans ((w_up_slot (by decide)).trans ((w_up_at (by decide)).trans ((w_up_at (by decide)).trans (((tr49.2.2.2.1 158 5 (by decide) (by decide) (by decide) (Or.inl (by decide))).trans (l5)))))))) (fun r68 => ?_)
                        refine wb_gfi 216 rfl (wy_pr rfl) wt_216 wf_7_2 (v := h) ((w_up_slot (by decide)).trans ((w_up_slot (by decide)).trans ((w_up_slot (by decide)).trans ((w_up_slot (by decide)).trans ((w_up_slot (by decide)).trans (((tr49.2.2.2.1 216 2 (by decide) (by decide) (by decide) (Or.inl (by decide))).trans (bh)))))))) (fun r69 => ?_)
                        refine wa_iconst ?_
                        refine wa_isub ?_
                        refine wb_lald 218 rfl (wy_pr rfl) wt_218 (n := (S 217 (-1))) ((w_up_slot (by decide)).trans ((w_up_slot (by decide)).trans ((w_up_slot (by decide)).trans ((w_up_slot (by decide)).trans ((w_up_slot (by decide)).trans (((tr49.2.2.2.1 218 (-1) (by decide) (by decide) (by decide) (Or.inl (by decide))).trans (bl1)))))))) (by omega) (by omega) (v := vy) ((w_up_slot (by decide)).trans ((w_up_slot (by decide)).trans ((w_up_slot (by decide)).trans ((w_up_slot (by decide)).trans ((w_up_slot (by decide)).trans (((tr49.2.2.2.1 218 (h - 1) (by decide) (by decide) (by decide) (Or.inl (by decide))).trans (hvy)))))))) (fun r70 => ?_)
                        refine wb_pfl 158 rfl (wy_pr rfl) wt_158 wf_5_17 (n := 17) rfl ⟨(by omega), (by omega)⟩ ?_
                        refine wa_fall ⟨_, rfl⟩ ?_
                        refine wa_aload_n (n := 0) rfl ?_
                        refine wa_aload_n (n := 0) rfl ?_
                        refine wb_gfi 158 rfl (wy_pr rfl) wt_158 wf_5_16 (v := ky) ((w_up_at (by decide)).trans (w_up_same _ _ _ _)) (fun r71 => ?_)
                        refine wa_aload_n (n := 0) rfl ?_
                        refine wb_gfl 158 rfl (wy_pr rfl) wt_158 wf_5_17 (v := vy) (w_up_same _ _ _ _) (fun r72 => ?_)
                        refine wa_cv 158 rfl (wy_pr rfl) wt_158 (M2 := mS [217, 218]) rfl at_XL_giveValue ⟨_, rfl⟩ rfl rfl ⟨trivial, trivial, trivial, (Or.inr ⟨wy_pr rfl, mS_no rfl⟩), (Or.inr ⟨wy_pr rfl, mS_no rfl⟩), trivial, trivial⟩ trivial (fun _ _ q => mS_sub (by decide) q) (glx_215 (S := (w_up (w_up (w_up (w_up (w_up (w_up Sq49 158 16 0) 158 17 0) 117 fi k1) 118 fi v1) 158 16 ky) 158 17 vy)) (k := ky) (v := vy) (h := h) (c := c) (p := p) (ba := ba) (w_CL_up (w_CL_up (w_CL_up (w_CL_up (w_CL_up (w_CL_up (CL_tr hC tr49) (by omega)) (by omega)) (by omega)) (by omega)) (by omega)) (by omega)) (gI_up (gI_up (gI_up (gI_up (gI_up (gI_up tr49.2.2.2.2.2.1 (by omega) (by omega) (by omega)) (by omega) (by omega) (by omega)) (by omega) (by omega) (by omega)) (by omega) (by omega) (by omega)) (by omega) (by omega) (by omega)) (by omega) (by omega) (by omega)) ((w_up_at (by decide)).trans ((w_up_at (by decide)).trans ((w_up_slot (by decide)).trans ((w_up_slot (by decide)).trans ((w_up_at (by decide)).trans ((w_up_at (by decide)).trans (((tr49.2.2.2.1 158 4 (by decide) (by decide) (by decide) (Or.inl (by decide))).trans (l4))))))))) ((w_up_at (by decide)).trans ((w_up_at (by decide)).trans ((w_up_slot (by decide)).trans ((w_up_slot (by decide)).trans ((w_up_at (by decide)).trans ((w_up_at (by decide)).trans (((tr49.2.2.2.1 158 5 (by decide) (by decide) (by decide) (Or.inl (by decide))).trans (l5))))))))) ((w_up_at (by decide)).trans ((w_up_at (by decide)).trans ((w_up_slot (by decide)).trans ((w_up_slot (by decide)).trans ((w_up_at (by decide)).trans ((w_up_at (by decide)).trans (((tr49.2.2.2.1 158 8 (by decide) (by decide) (by decide) (Or.inl (by decide))).trans (l8))))))))) ((w_up_slot (by decide)).trans ((w_up_slot (by decide)).trans ((w_up_slot (by decide)).trans ((w_up_slot (by decide)).trans ((w_up_slot (by decide)).trans ((w_up_slot (by decide)).trans (((tr49.2.2.2.1 215 4 (by decide) (by decide) (by decide) (Or.inl (by decide))).trans (bc))))))))) ((w_up_slot (by decide)).trans ((w_up_slot (by decide)).trans ((w_up_slot (by decide)).trans ((w_up_slot (by decide)).trans ((w_up_slot (by decide)).trans ((w_up_slot (by decide)).trans (((tr49.2.2.2.1 220 (c - 1) (by decide) (by decide) (by decide) (Or.inl (by decide))).trans (bp))))))))) ((((w_up_slot (by decide)).trans ((w_up_slot (by decide)).trans ((w_up_slot (by decide)).trans ((w_up_slot (by decide)).trans ((w_up_slot (by decide)).trans ((w_up_slot (by decide)).trans (((tr49.2.2.2.1 218 (-1) (by decide) (by decide) (by decide) (Or.inl (by decide))).trans (bl1)))))))))).trans (((w_up_slot (by decide)).trans ((w_up_slot (by decide)).trans ((w_up_slot (by decide)).trans ((w_up_slot (by decide)).trans ((w_up_slot (by decide)).trans ((w_up_slot (by decide)).trans (((tr49.2.2.2.1 217 (-1) (by decide) (by decide) (by decide) (Or.inl (by decide))).trans (rfl)))))))))).symm) (by have e : (w_up (w_up (w_up (w_up (w_up (w_up Sq49 158 16 0) 158 17 0) 117 fi k1) 118 fi v1) 158 16 ky) 158 17 vy) 217 (-1) = S 217 (-1) := ((w_up_slot (by decide)).trans ((w_up_slot (by decide)).trans ((w_up_slot (by decide)).trans ((w_up_slot (by decide)).trans ((w_up_slot (by decide)).trans ((w_up_slot (by decide)).trans (((tr49.2.2.2.1 217 (-1) (by decide) (by decide) (by decide) (Or.inl (by decide))).trans (rfl))))))))); rw [e]; exact ⟨bl2, bl3⟩) (by have e : (w_up (w_up (w_up (w_up (w_up (w_up Sq49 158 16 0) 158 17 0) 117 fi k1) 118 fi v1) 158 16 ky) 158 17 vy) 217 (-1) = S 217 (-1) := ((w_up_slot (by decide)).trans ((w_up_slot (by decide)).trans ((w_up_slot (by decide)).trans ((w_up_slot (by decide)).trans ((w_up_slot (by decide)).trans ((w_up_slot (by decide)).trans (((tr49.2.2.2.1 217 (-1) (by decide) (by decide) (by decide) (Or.inl (by decide))).trans (rfl))))))))); omega) ⟨by omega, by omega⟩ ⟨by omega, by omega⟩ ⟨by omega, by omega⟩ ⟨by omega, by omega⟩) (fun oq73 Sq73 hp74 q73 => ?_)
                        rcases q73 with ⟨rfl, hgv73⟩
                        show wJ _ _ _ _ _ _ _ _ _ _
                        refine wa_return rfl ?_
                        refine ⟨rfl, Or.inr ⟨by omega, Sq49, (w_up (w_up (w_up (w_up (w_up (w_up Sq49 158 16 0) 158 17 0) 117 fi k1) 118 fi v1) 158 16 ky) 158 17 vy), tr49, ?_, ?_⟩⟩
                        · exact fun j i hji => (w_up_no (by omega)).trans ((w_up_no (by omega)).trans (w_up_cg2 (w_up_cg2 ((w_up_no (by omega)).trans (w_up_no (by omega))))))
                        · first | (rw [if_pos (show kd = 1 by omega), if_pos (show kd = 1 by omega)]; exact hgv73) | (rw [if_neg (show ¬ kd = 1 by omega), if_neg (show ¬ kd = 1 by omega)]; exact hgv73)
                  · skip
                    exact absurd c51 (by omega)
                · skip
                  exact absurd c47 (by omega)
              · skip
                exact absurd c46 (by omega)
          · skip
            exact absurd c42 (by omega)
        · skip
          exact absurd c41 (by omega)
  · skip
    exact absurd c3 (by omega)
set_option maxHeartbeats 4000000 in
theorem cmg0_73_215 {c p h kd ba m en tn ky vy fl fi gb ty st vk vb : Int} (hP : xP 215 c p h S) (l4 : S 158 4 = 215) (l5 : S 158 5 = 216) (l7 : S 158 7 = kd) (l8 : S 158 8 = ba) (l12 : S 158 12 = en) (hen : 0 ≤ en ∧ en ≤ 1000) (hba : 0 ≤ ba ∧ ba < h) (h72 : S 72 1 = 73) (hm : 0 ≤ m ∧ m < 400) (hso : S 98 m = 1) (ht15 : S 72 15 = tn) (ht0 : 0 ≤ tn ∧ tn ≤ S 152 (-1) ∧ tn ≤ 100000) (ht9 : 16 ≤ S 152 (-1) ∧ S 152 (-1) ≤ 131072 ∨ (16 ≤ S 152 (-1) ∧ S 152 (-1) ≤ 262143 ∧ tn + 2 ≤ S 152 (-1))) (hky : S 217 (h - 1) = ky) (hvy : S 218 (h - 1) = vy) (hkr : -128 ≤ ky ∧ ky ≤ 127) (hvr : -9223372036854775808 ≤ vy ∧ vy ≤ 9223372036854775807) (hmf : S 112 m = fl) (hfl : 0 ≤ fl ∧ fl < 400) (hstt : S 99 fl = 0) (hfi : S 112 fl = fi) (l10 : S 158 10 = gb) (hmt : S 100 m = ty) (hmc : S 101 m = 0) (hth : ∀ x : Nat, x < 10 → S (127 + x) (-1) = S 127 (-1)) (hn2 : S 127 (-1) ≤ 16383) (hl14 : S 142 (-1) = S 141 (-1)) (hz14 : 16 ≤ S 141 (-1) ∧ S 141 (-1) ≤ 480400) (hgb : 0 ≤ gb ∧ gb < S 127 (-1)) (hst : S 133 gb = st) (hrb : 0 ≤ st ∧ 0 ≤ fi ∧ fi ≤ 1000 ∧ st + fi < S 141 (-1)) (hvk : S 141 (st + fi) = vk) (hvb : S 142 (st + fi) = vb) (hvr2 : -128 ≤ vk ∧ vk ≤ 127) (hvs : -9223372036854775808 ≤ vb ∧ vb ≤ 9223372036854775807) : wJ (pe_GA xs) wY0 (mS [217, 218, 152]) (d + 6) t_XL_callMember ((pe_at t_XL_callMember.bl 0).getD (0, [])).2 [(0, (2, 158)), (1, (0, m))] [] S (fun o Z => o = .inl none ∧ ((100000 < tn + 2 ∧ w_up S 215 16 99 = Z) ∨ (¬ (100000 < tn + 2) ∧ cmE 215 h c p (h - ba) kd ky vy vk vb m en gvR S Z))) := by
  obtain ⟨⟨hC, hI⟩, ⟨bc, bc0, bc1⟩, ⟨bp, bp0, bp1⟩, ⟨bh, bh0, bh1, bh2⟩, bl1, bl2, bl3⟩ := hP
  replace bp : S 220 (c - 1) = p := bp
  replace bh : S 216 2 = h := bh
  replace bh2 : h ≤ S 217 (-1) := bh2
  replace bl1 : S 218 (-1) = S 217 (-1) := bl1
  replace bl2 : 64 ≤ S 217 (-1) := bl2
  replace bl3 : S 217 (-1) ≤ 4095 := bl3
  refine wa_aload_n (n := 0) rfl ?_
  refine wb_gf4 158 rfl (wy_pr rfl) wt_158 wf_5_0 (v := 72) wl_158_0 ?_
  refine wb_gf5 72 rfl (wy_pr rfl) wt_72 wf_2_1 (v := 73) (h72) (fun r1 => ?_)
  refine wa_astore_n (n := 2) rfl ?_
  refine wa_aload_n (n := 2) rfl ?_
  refine wb_gf4 73 rfl (wy_pr rfl) wt_73 wf_3_3 (v := 96) wl_73_3 ?_
  refine wa_iconst ?_
  refine wb_aald5 96 1 rfl rfl (wy_pr rfl) wt_96 (by rw [show _ = _ from ((cl_96 hC))]; omega) wl_96_1 ?_
  refine wa_iload_n (n := 1) rfl ?_
  refine wb_iald 98 rfl (wy_pr rfl) wt_98 (n := 400) ((cl_98 hC)) (by omega) (by omega) (v := 1) (hso) (fun r2 => ?_)
  refine wa_iconst ?_
  refine wa_icmpne (w_rg0 (by omega) (by omega)) (w_rg0 (by omega) (by omega)) ⟨_, rfl⟩ (fun c3 => ?_) (fun c3 => ?_)
  · skip
    refine wa_iconst ?_
    refine wa_fall ⟨_, rfl⟩ ?_
    refine wa_istore_n (n := 3) rfl ?_
    refine wa_iload_n (n := 3) rfl ?_
    refine wa_ifne (w_rg0 (by omega) (by omega)) ⟨_, rfl⟩ (fun c4 => ?_) (fun c4 => ?_)
    · skip
      exact absurd c4 (by omega)
    · skip
      refine wa_aload_n (n := 2) rfl ?_
      refine wb_gf4 73 rfl (wy_pr rfl) wt_73 wf_3_3 (v := 96) wl_73_3 ?_
      refine wa_iconst ?_
      refine wb_aald5 96 3 rfl rfl (wy_pr rfl) wt_96 (by rw [show _ = _ from ((cl_96 hC))]; omega) wl_96_3 ?_
      refine wa_iload_n (n := 1) rfl ?_
      refine wb_iald 100 rfl (wy_pr rfl) wt_100 (n := 400) ((cl_100 hC)) (by omega) (by omega) (v := ty) (hmt) (fun r5 => ?_)
      refine wa_bipush (w_rg2 (by omega) (by omega)) ?_
      refine wa_icmpne (w_rg0 (by omega) (by omega)) (w_rg0 (by omega) (by omega)) ⟨_, rfl⟩ (fun c6 => ?_) (fun c6 => ?_)
      · skip
        refine wa_iconst ?_
        refine wa_fall ⟨_, rfl⟩ ?_
        refine wa_istore (n := 4) rfl ?_
        refine wa_iload_n (n := 3) rfl ?_
        refine wa_ifeq (w_rg0 (by omega) (by omega)) ⟨_, rfl⟩ (fun c7 => ?_) (fun c7 => ?_)
        · skip
          refine wa_iconst ?_
          refine wa_fall ⟨_, rfl⟩ ?_
          refine wa_istore (n := 5) rfl ?_
          refine wa_aload_n (n := 0) rfl ?_
          refine wb_gf4 158 rfl (wy_pr rfl) wt_158 wf_5_0 (v := 72) wl_158_0 ?_
          refine wb_gfi 72 rfl (wy_pr rfl) wt_72 wf_2_15 (v := tn) (ht15) (fun r8 => ?_)
          refine wa_iconst ?_
          refine wa_iadd ?_
          refine wb_ki (n := 100000) rfl ?_
          refine wa_icmpgt (w_rg0 (by omega) (by omega)) (w_rg0 (by omega) (by omega)) ⟨_, rfl⟩ (fun c9 => ?_) (fun c9 => ?_)
          · skip
            refine wa_aload_n (n := 0) rfl ?_
            refine wb_gf5 158 rfl (wy_pr rfl) wt_158 wf_5_4 (v := 215) (l4) (fun r10 => ?_)
            refine wa_bipush (w_rg2 (by omega) (by omega)) ?_
            refine wb_pfi 215 rfl (wy_pr rfl) wt_215 wf_8_16 (n := 16) rfl ⟨(by omega), (by omega)⟩ ?_
            refine wa_return rfl ?_
            exact ⟨rfl, Or.inl ⟨by omega, rfl⟩⟩
          · skip
            refine wa_iload_n (n := 3) rfl ?_
            refine wa_ifeq (w_rg0 (by omega) (by omega)) ⟨_, rfl⟩ (fun c11 => ?_) (fun c11 => ?_)
            · skip
              refine wa_iload (n := 4) rfl ?_
              refine wa_ifeq (w_rg0 (by omega) (by omega)) ⟨_, rfl⟩ (fun c12 => ?_) (fun c12 => ?_)
              · skip
                refine wa_aload_n (n := 0) rfl ?_
                refine wb_gf4 158 rfl (wy_pr rfl) wt_158 wf_5_0 (v := 72) wl_158_0 ?_
                refine wa_iload_n (n := 1) rfl ?_
                refine wa_aload_n (n := 0) rfl ?_
                refine wb_gfi 158 rfl (wy_pr rfl) wt_158 wf_5_12 (v := en) (l12) (fun r13 => ?_)
                refine wa_cv 72 rfl (wy_pr rfl) wt_72 (M2 := mS [152]) rfl at_XH_addTrace ⟨_, rfl⟩ rfl rfl ⟨trivial, trivial, trivial, (Or.inr ⟨wy_pr rfl, mS_no rfl⟩), (Or.inr ⟨wy_pr rfl, mS_no rfl⟩), trivial, trivial⟩ trivial (fun _ _ q => mS_sub (by decide) q) (tra (S := S) (m := m) (k := en) hI ⟨by omega, by omega⟩ ⟨by omega, by omega⟩ (by rw [ht15]; exact ht0) (by rw [ht15]; exact ht9)) (fun oq14 Sq14 hp15 q14 => ?_)
                rcases q14 with ⟨rfl, tr14⟩
                show wJ _ _ _ _ _ _ _ _ _ _
                refine wa_aload_n (n := 0) rfl ?_
                refine wa_iconst ?_
                refine wb_pfi 158 rfl (wy_pr rfl) wt_158 wf_5_16 (n := 16) rfl ⟨(by omega), (by omega)⟩ ?_
                refine wa_aload_n (n := 0) rfl ?_
                refine wb_lconst (m := 0) rfl ?_
                refine wb_pfl 158 rfl (wy_pr rfl) wt_158 wf_5_17 (n := 17) rfl ⟨(by omega), (by omega)⟩ ?_
                refine wa_iload_n (n := 3) rfl ?_
                refine wa_ifeq (w_rg0 (by omega) (by omega)) ⟨_, rfl⟩ (fun c16 => ?_) (fun c16 => ?_)
                · skip
                  refine wa_aload_n (n := 2) rfl ?_
                  refine wb_gf4 73 rfl (wy_pr rfl) wt_73 wf_3_3 (v := 96) wl_73_3 ?_
                  refine wa_bipush (w_rg2 (by omega) (by omega)) ?_
                  refine wb_aald5 96 15 rfl rfl (wy_pr rfl) wt_96 (by rw [show _ = _ from ((w_up_slot (by decide)).trans ((w_up_slot (by decide)).trans (((tr14.2.2.2.1 96 (-1) (by decide) (by decide) (by decide) (Or.inl (by decide))).trans ((cl_96 hC))))))]; omega) wl_96_15 ?_
                  refine wa_iload_n (n := 1) rfl ?_
                  refine wb_iald 112 rfl (wy_pr rfl) wt_112 (n := 400) ((w_up_slot (by decide)).trans ((w_up_slot (by decide)).trans (((tr14.2.2.2.1 112 (-1) (by decide) (by decide) (by decide) (Or.inl (by decide))).trans ((cl_112 hC)))))) (by omega) (by omega) (v := fl) ((w_up_slot (by decide)).trans ((w_up_slot (by decide)).trans (((tr14.2.2.2.1 112 m (by decide) (by decide) (by decide) (Or.inl (by decide))).trans (hmf))))) (fun r17 => ?_)
                  refine wa_iconst ?_
                  refine wa_icmpeq (w_rg0 (by omega) (by omega)) (w_rg0 (by omega) (by omega)) ⟨_, rfl⟩ (fun c18 => ?_) (fun c18 => ?_)
                  · skip
                    exact absurd c18 (by omega)
                  · skip
                    refine wa_aload_n (n := 0) rfl ?_
                    refine wa_iload_n (n := 1) rfl ?_
                    refine wa_aload_n (n := 2) rfl ?_
                    refine wb_gf4 73 rfl (wy_pr rfl) wt_73 wf_3_3 (v := 96) wl_73_3 ?_
                    refine wa_bipush (w_rg2 (by omega) (by omega)) ?_
                    refine wb_aald5 96 15 rfl rfl (wy_pr rfl) wt_96 (by rw [show _ = _ from ((w_up_slot (by decide)).trans ((w_up_slot (by decide)).trans (((tr14.2.2.2.1 96 (-1) (by decide) (by decide) (by decide) (Or.inl (by decide))).trans ((cl_96 hC))))))]; omega) wl_96_15 ?_
                    refine wa_iload_n (n := 1) rfl ?_
                    refine wb_iald 112 rfl (wy_pr rfl) wt_112 (n := 400) ((w_up_slot (by decide)).trans ((w_up_slot (by decide)).trans (((tr14.2.2.2.1 112 (-1) (by decide) (by decide) (by decide) (Or.inl (by decide))).trans ((cl_112 hC)))))) (by omega) (by omega) (v := fl) ((w_up_slot (by decide)).trans ((w_up_slot (by decide)).trans (((tr14.2.2.2.1 112 m (by decide) (by decide) (by decide) (Or.inl (by decide))).trans (hmf))))) (fun r19 => ?_)
                    have hf2 : ∀ (j : Nat) (i : Int), j < 4000000 → j ≠ wG → j ≠ 152 → j ≠ 72 → j ≠ 158 → (w_up (w_up Sq14 158 16 0) 158 17 0) j i = S j i := fun j i a b c d e => (w_up_no (fun z => e z.1)).trans ((w_up_no (fun z => e z.1)).trans (tr14.2.2.2.1 j i a b c (Or.inl d)))
                    have el : (w_up (w_up Sq14 158 16 0) 158 17 0) 141 (-1) = S 141 (-1) := (hf2 141 _ (by first | decide | omega) (by first | decide | omega) (by first | decide | omega) (by first | decide | omega) (by first | decide | omega))
                    have el2 : (w_up (w_up Sq14 158 16 0) 158 17 0) 142 (-1) = S 142 (-1) := (hf2 142 _ (by first | decide | omega) (by first | decide | omega) (by first | decide | omega) (by first | decide | omega) (by first | decide | omega))
                    have el3 : (w_up (w_up Sq14 158 16 0) 158 17 0) 127 (-1) = S 127 (-1) := (hf2 127 _ (by first | decide | omega) (by first | decide | omega) (by first | decide | omega) (by first | decide | omega) (by first | decide | omega))
                    refine wa_cv 158 rfl (wy_pr rfl) wt_158 (M2 := fun _ => False) rfl at_XL_useField ⟨_, rfl⟩ rfl rfl ⟨trivial, trivial, trivial, (Or.inr ⟨wy_pr rfl, fun q => q⟩), (Or.inr ⟨wy_pr rfl, fun q => q⟩), trivial, trivial⟩ trivial (fun _ _ q => False.elim q) (usg0_73_215 (S := (w_up (w_up Sq14 158 16 0) 158 17 0)) (m := m) (f := fl) (w_CL_up (w_CL_up (CL_tr hC tr14) (by omega)) (by omega)) ((w_up_slot (by decide)).trans ((w_up_slot (by decide)).trans (((tr14.2.2.2.1 72 1 (by decide) (by decide) (by decide) (Or.inr (by decide))).trans (h72))))) ((w_up_at (by decide)).trans ((w_up_at (by decide)).trans (((tr14.2.2.2.1 158 5 (by decide) (by decide) (by decide) (Or.inl (by decide))).trans (l5))))) ((w_up_at (by decide)).trans ((w_up_at (by decide)).trans (((tr14.2.2.2.1 158 8 (by decide) (by decide) (by decide) (Or.inl (by decide))).trans (l8))))) (((w_up_at (by decide)).trans ((w_up_at (by decide)).trans ((tr14.2.2.2.1 158 10 (by decide) (by decide) (by decide) (Or.inl (by decide)))))).trans l10) hm hfl ((hf2 99 _ (by decide) (by decide) (by decide) (by decide) (by decide)).trans hstt) ((hf2 112 _ (by decide) (by decide) (by decide) (by decide) (by decide)).trans hfi) (fun x hx => by rw [hf2 (127 + x) (-1) (by omega) (by unfold wG; omega) (by omega) (by omega) (by omega), el3]; exact hth x hx) (by rw [el3]; exact hn2) (by rw [el, el2]; exact hl14) (by rw [el]; exact hz14) (by rw [el3]; exact hgb) ((hf2 133 _ (by decide) (by decide) (by decide) (by decide) (by decide)).trans hst) (by rw [el]; exact hrb) ((hf2 101 _ (by decide) (by decide) (by decide) (by decide) (by decide)).trans hmc) ((hf2 141 _ (by decide) (by decide) (by decide) (by decide) (by decide)).trans hvk) ((hf2 142 _ (by decide) (by decide) (by decide) (by decide) (by decide)).trans hvb)) (fun oq20 Sq20 hp21 q20 => ?_)
                    rcases q20 with ⟨rfl, rfl⟩
                    show wJ _ _ _ _ _ _ _ _ _ _
                    refine wa_goto ⟨_, rfl⟩ ?_
                    refine wa_aload_n (n := 0) rfl ?_
                    refine wb_gfi 158 rfl (wy_pr rfl) wt_158 wf_5_7 (v := kd) ((w_up_at (by decide)).trans ((w_up_at (by decide)).trans ((w_up_at (by decide)).trans ((w_up_at (by decide)).trans (((tr14.2.2.2.1 158 7 (by decide) (by decide) (by decide) (Or.inl (by decide))).trans (l7))))))) (fun r22 => ?_)
                    refine wa_iconst ?_
                    refine wa_icmpne (w_rg0 (by omega) (by omega)) (w_rg0 (by omega) (by omega)) ⟨_, rfl⟩ (fun c23 => ?_) (fun c23 => ?_)
                    · skip
                      refine wa_aload_n (n := 0) rfl ?_
                      refine wa_aload_n (n := 0) rfl ?_
                      refine wb_gfi 158 rfl (wy_pr rfl) wt_158 wf_5_16 (v := vk) ((w_up_at (by decide)).trans (w_up_same _ _ _ _)) (fun r24 => ?_)
                      refine wa_aload_n (n := 0) rfl ?_
                      refine wb_gfl 158 rfl (wy_pr rfl) wt_158 wf_5_17 (v := vb) (w_up_same _ _ _ _) (fun r25 => ?_)
                      refine wa_cv 158 rfl (wy_pr rfl) wt_158 (M2 := mS [217, 218]) rfl at_XL_giveValue ⟨_, rfl⟩ rfl rfl ⟨trivial, trivial, trivial, (Or.inr ⟨wy_pr rfl, mS_no rfl⟩), (Or.inr ⟨wy_pr rfl, mS_no rfl⟩), trivial, trivial⟩ trivial (fun _ _ q => mS_sub (by decide) q) (glx_215 (S := (w_up (w_up (w_up (w_up Sq14 158 16 0) 158 17 0) 158 16 vk) 158 17 vb)) (k := vk) (v := vb) (h := h) (c := c) (p := p) (ba := ba) (w_CL_up (w_CL_up (w_CL_up (w_CL_up (CL_tr hC tr14) (by omega)) (by omega)) (by omega)) (by omega)) (gI_up (gI_up (gI_up (gI_up tr14.2.2.2.2.2.1 (by omega) (by omega) (by omega)) (by omega) (by omega) (by omega)) (by omega) (by omega) (by omega)) (by omega) (by omega) (by omega)) ((w_up_at (by decide)).trans ((w_up_at (by decide)).trans ((w_up_at (by decide)).trans ((w_up_at (by decide)).trans (((tr14.2.2.2.1 158 4 (by decide) (by decide) (by decide) (Or.inl (by decide))).trans (l4))))))) ((w_up_at (by decide)).trans ((w_up_at (by decide)).trans ((w_up_at (by decide)).trans ((w_up_at (by decide)).trans (((tr14.2.2.2.1 158 5 (by decide) (by decide) (by decide) (Or.inl (by decide))).trans (l5))))))) ((w_up_at (by decide)).trans ((w_up_at (by decide)).trans ((w_up_at (by decide)).trans ((w_up_at (by decide)).trans (((tr14.2.2.2.1 158 8 (by decide) (by decide) (by decide) (Or.inl (by decide))).trans (l8))))))) ((w_up_slot (by decide)).trans ((w_up_slot (by decide)).trans ((w_up_slot (by decide)).trans ((w_up_slot (by decide)).trans (((tr14.2.2.2.1 215 4 (by decide) (by decide) (by decide) (Or.inl (by decide))).trans (bc))))))) ((w_up_slot (by decide)).trans ((w_up_slot (by decide)).trans ((w_up_slot (by decide)).trans ((w_up_slot (by decide)).trans (((tr14.2.2.2.1 220 (c - 1) (by decide) (by decide) (by decide) (Or.inl (by decide))).trans (bp))))))) ((((w_up_slot (by decide)).trans ((w_up_slot (by decide)).trans ((w_up_slot (by decide)).trans ((w_up_slot (by decide)).trans (((tr14.2.2.2.1 218 (-1) (by decide) (by decide) (by decide) (Or.inl (by decide))).trans (bl1)))))))).trans (((w_up_slot (by decide)).trans ((w_up_slot (by decide)).trans ((w_up_slot (by decide)).trans ((w_up_slot (by decide)).trans (((tr14.2.2.2.1 217 (-1) (by decide) (by decide) (by decide) (Or.inl (by decide))).trans (rfl)))))))).symm) (by have e : (w_up (w_up (w_up (w_up Sq14 158 16 0) 158 17 0) 158 16 vk) 158 17 vb) 217 (-1) = S 217 (-1) := ((w_up_slot (by decide)).trans ((w_up_slot (by decide)).trans ((w_up_slot (by decide)).trans ((w_up_slot (by decide)).trans (((tr14.2.2.2.1 217 (-1) (by decide) (by decide) (by decide) (Or.inl (by decide))).trans (rfl))))))); rw [e]; exact ⟨bl2, bl3⟩) (by have e : (w_up (w_up (w_up (w_up Sq14 158 16 0) 158 17 0) 158 16 vk) 158 17 vb) 217 (-1) = S 217 (-1) := ((w_up_slot (by decide)).trans ((w_up_slot (by decide)).trans ((w_up_slot (by decide)).trans ((w_up_slot (by decide)).trans (((tr14.2.2.2.1 217 (-1) (by decide) (by decide) (by decide) (Or.inl (by decide))).trans (rfl))))))); omega) ⟨by omega, by omega⟩ ⟨by omega, by omega⟩ ⟨by omega, by omega⟩ ⟨by omega, by omega⟩) (fun oq26 Sq26 hp27 q26 => ?_)
                      rcases q26 with ⟨rfl, hgv26⟩
                      show wJ _ _ _ _ _ _ _ _ _ _
                      refine wa_return rfl ?_
                      refine ⟨rfl, Or.inr ⟨by omega, Sq14, (w_up (w_up (w_up (w_up Sq14 158 16 0) 158 17 0) 158 16 vk) 158 17 vb), tr14, ?_, ?_⟩⟩
                      · exact fun j i hji => (w_up_no (by omega)).trans ((w_up_no (by omega)).trans ((w_up_no (by omega)).trans ((w_up_no (by omega)).trans (rfl))))
                      · first | (rw [if_pos (show kd = 1 by omega), if_pos (show kd = 1 by omega)]; exact hgv26) | (rw [if_neg (show ¬ kd = 1 by omega), if_neg (show ¬ kd = 1 by omega)]; exact hgv26)
                    · skip
                      refine wa_aload_n (n := 0) rfl ?_
                      refine wa_aload_n (n := 0) rfl ?_
                      refine wb_gf5 158 rfl (wy_pr rfl) wt_158 wf_5_5 (v := 216) ((w_up_at (by decide)).trans ((w_up_at (by decide)).trans ((w_up_at (by decide)).trans ((w_up_at (by decide)).trans (((tr14.2.2.2.1 158 5 (by decide) (by decide) (by decide) (Or.inl (by decide))).trans (l5))))))) (fun r28 => ?_)
                      refine wb_gf4 216 rfl (wy_pr rfl) wt_216 wf_7_0 (v := 217) wl_216_0 ?_
                      refine wa_aload_n (n := 0) rfl ?_
                      refine wb_gf5 158 rfl (wy_pr rfl) wt_158 wf_5_5 (v := 216) ((w_up_at (by decide)).trans ((w_up_at (by decide)).trans ((w_up_at (by decide)).trans ((w_up_at (by decide)).trans (((tr14.2.2.2.1 158 5 (by decide) (by decide) (by decide) (Or.inl (by decide))).trans (l5))))))) (fun r29 => ?_)
                      refine wb_gfi 216 rfl (wy_pr rfl) wt_216 wf_7_2 (v := h) ((w_up_slot (by decide)).trans ((w_up_slot (by decide)).trans ((w_up_slot (by decide)).trans ((w_up_slot (by decide)).trans (((tr14.2.2.2.1 216 2 (by decide) (by decide) (by decide) (Or.inl (by decide))).trans (bh))))))) (fun r30 => ?_)
                      refine wa_iconst ?_
                      refine wa_isub ?_
                      refine wb_bald 217 rfl (wy_pr rfl) wt_217 (n := (S 217 (-1))) ((w_up_slot (by decide)).trans ((w_up_slot (by decide)).trans ((w_up_slot (by decide)).trans ((w_up_slot (by decide)).trans (((tr14.2.2.2.1 217 (-1) (by decide) (by decide) (by decide) (Or.inl (by decide))).trans (rfl))))))) (by omega) (by omega) (v := ky) ((w_up_slot (by decide)).trans ((w_up_slot (by decide)).trans ((w_up_slot (by decide)).trans ((w_up_slot (by decide)).trans (((tr14.2.2.2.1 217 (h - 1) (by decide) (by decide) (by decide) (Or.inl (by decide))).trans (hky))))))) (fun r31 => ?_)
                      refine wb_pfi 158 rfl (wy_pr rfl) wt_158 wf_5_16 (n := 16) rfl ⟨(by omega), (by omega)⟩ ?_
                      refine wa_aload_n (n := 0) rfl ?_
                      refine wa_aload_n (n := 0) rfl ?_
                      refine wb_gf5 158 rfl (wy_pr rfl) wt_158 wf_5_5 (v := 216) ((w_up_at (by decide)).trans ((w_up_at (by decide)).trans ((w_up_at (by decide)).trans ((w_up_at (by decide)).trans ((w_up_at (by decide)).trans (((tr14.2.2.2.1 158 5 (by decide) (by decide) (by decide) (Or.inl (by decide))).trans (l5)))))))) (fun r32 => ?_)
                      refine wb_gf4 216 rfl (wy_pr rfl) wt_216 wf_7_1 (v := 218) wl_216_1 ?_
                      refine wa_aload_n (n := 0) rfl ?_
                      refine wb_gf5 158 rfl (wy_pr rfl) wt_158 wf_5_5 (v := 216) ((w_up_at (by decide)).trans ((w_up_at (by decide)).trans ((w_up_at (by decide)).trans ((w_up_at (by decide)).trans ((w_up_at (by decide)).trans (((tr14.2.2.2.1 158 5 (by decide) (by decide) (by decide) (Or.inl (by decide))).trans (l5)))))))) (fun r33 => ?_)
                      refine wb_gfi 216 rfl (wy_pr rfl) wt_216 wf_7_2 (v := h) ((w_up_slot (by decide)).trans ((w_up_slot (by decide)).trans ((w_up_slot (by decide)).trans ((w_up_slot (by decide)).trans ((w_up_slot (by decide)).trans (((tr14.2.2.2.1 216 2 (by decide) (by decide) (by decide) (Or.inl (by decide))).trans (bh)))))))) (fun r34 => ?_)
                      refine wa_iconst ?_
                      refine wa_isub ?_
                      refine wb_lald 218 rfl (wy_pr rfl) wt_218 (n := (S 217 (-1))) ((w_up_slot (by decide)).trans ((w_up_slot (by decide)).trans ((w_up_slot (by decide)).trans ((w_up_slot (by decide)).trans ((w_up_slot (by decide)).trans (((tr14.2.2.2.1 218 (-1) (by decide) (by decide) (by decide) (Or.inl (by decide))).trans (bl1)))))))) (by omega) (by omega) (v := vy) ((w_up_slot (by decide)).trans ((w_up_slot (by decide)).trans ((w_up_slot (by decide)).trans ((w_up_slot (by decide)).trans ((w_up_slot (by decide)).trans (((tr14.2.2.2.1 218 (h - 1) (by decide) (by decide) (by decide) (Or.inl (by decide))).trans (hvy)))))))) (fun r35 => ?_)
                      refine wb_pfl 158 rfl (wy_pr rfl) wt_158 wf_5_17 (n := 17) rfl ⟨(by omega), (by omega)⟩ ?_
                      refine wa_fall ⟨_, rfl⟩ ?_
                      refine wa_aload_n (n := 0) rfl ?_
                      refine wa_aload_n (n := 0) rfl ?_
                      refine wb_gfi 158 rfl (wy_pr rfl) wt_158 wf_5_16 (v := ky) ((w_up_at (by decide)).trans (w_up_same _ _ _ _)) (fun r36 => ?_)
                      refine wa_aload_n (n := 0) rfl ?_
                      refine wb_gfl 158 rfl (wy_pr rfl) wt_158 wf_5_17 (v := vy) (w_up_same _ _ _ _) (fun r37 => ?_)
                      refine wa_cv 158 rfl (wy_pr rfl) wt_158 (M2 := mS [217, 218]) rfl at_XL_giveValue ⟨_, rfl⟩ rfl rfl ⟨trivial, trivial, trivial, (Or.inr ⟨wy_pr rfl, mS_no rfl⟩), (Or.inr ⟨wy_pr rfl, mS_no rfl⟩), trivial, trivial⟩ trivial (fun _ _ q => mS_sub (by decide) q) (glx_215 (S := (w_up (w_up (w_up (w_up (w_up (w_up Sq14 158 16 0) 158 17 0) 158 16 vk) 158 17 vb) 158 16 ky) 158 17 vy)) (k := ky) (v := vy) (h := h) (c := c) (p := p) (ba := ba) (w_CL_up (w_CL_up (w_CL_up (w_CL_up (w_CL_up (w_CL_up (CL_tr hC tr14) (by omega)) (by omega)) (by omega)) (by omega)) (by omega)) (by omega)) (gI_up (gI_up (gI_up (gI_up (gI_up (gI_up tr14.2.2.2.2.2.1 (by omega) (by omega) (by omega)) (by omega) (by omega) (by omega)) (by omega) (by omega) (by omega)) (by omega) (by omega) (by omega)) (by omega) (by omega) (by omega)) (by omega) (by omega) (by omega)) ((w_up_at (by decide)).trans ((w_up_at (by decide)).trans ((w_up_at (by decide)).trans ((w_up_at (by decide)).trans ((w_up_at (by decide)).trans ((w_up_at (by decide)).trans (((tr14.2.2.2.1 158 4 (by decide) (by decide) (by decide) (Or.inl (by decide))).trans (l4))))))))) ((w_up_at (by decide)).trans ((w_up_at (by decide)).trans ((w_up_at (by decide)).trans ((w_up_at (by decide)).trans ((w_up_at (by decide)).trans ((w_up_at (by decide)).trans (((tr14.2.2.2.1 158 5 (by decide) (by decide) (by decide) (Or.inl (by decide))).trans (l5))))))))) ((w_up_at (by decide)).trans ((w_up_at (by decide)).trans ((w_up_at (by decide)).trans ((w_up_at (by decide)).trans ((w_up_at (by decide)).trans ((w_up_at (by decide)).trans (((tr14.2.2.2.1 158 8 (by decide) (by decide) (by decide) (Or.inl (by decide))).trans (l8))))))))) ((w_up_slot (by decide)).trans ((w_up_slot (by decide)).trans ((w_up_slot (by decide)).trans ((w_up_slot (by decide)).trans ((w_up_slot (by decide)).trans ((w_up_slot (by decide)).trans (((tr14.2.2.2.1 215 4 (by decide) (by decide) (by decide) (Or.inl (by decide))).trans (bc))))))))) ((w_up_slot (by decide)).trans ((w_up_slot (by decide)).trans ((w_up_slot (by decide)).trans ((w_up_slot (by decide)).trans ((w_up_slot (by decide)).trans ((w_up_slot (by decide)).trans (((tr14.2.2.2.1 220 (c - 1) (by decide) (by decide) (by decide) (Or.inl (by decide))).trans (bp))))))))) ((((w_up_slot (by decide)).trans ((w_up_slot (by decide)).trans ((w_up_slot (by decide)).trans ((w_up_slot (by decide)).trans ((w_up_slot (by decide)).trans ((w_up_slot (by decide)).trans (((tr14.2.2.2.1 218 (-1) (by decide) (by decide) (by decide) (Or.inl (by decide))).trans (bl1)))))))))).trans (((w_up_slot (by decide)).trans ((w_up_slot (by decide)).trans ((w_up_slot (by decide)).trans ((w_up_slot (by decide)).trans ((w_up_slot (by decide)).trans ((w_up_slot (by decide)).trans (((tr14.2.2.2.1 217 (-1) (by decide) (by decide) (by decide) (Or.inl (by decide))).trans (rfl)))))))))).symm) (by have e : (w_up (w_up (w_up (w_up (w_up (w_up Sq14 158 16 0) 158 17 0) 158 16 vk) 158 17 vb) 158 16 ky) 158 17 vy) 217 (-1) = S 217 (-1) := ((w_up_slot (by decide)).trans ((w_up_slot (by decide)).trans ((w_up_slot (by decide)).trans ((w_up_slot (by decide)).trans ((w_up_slot (by decide)).trans ((w_up_slot (by decide)).trans (((tr14.2.2.2.1 217 (-1) (by decide) (by decide) (by decide) (Or.inl (by decide))).trans (rfl))))))))); rw [e]; exact ⟨bl2, bl3⟩) (by have e : (w_up (w_up (w_up (w_up (w_up (w_up Sq14 158 16 0) 158 17 0) 158 16 vk) 158 17 vb) 158 16 ky) 158 17 vy) 217 (-1) = S 217 (-1) := ((w_up_slot (by decide)).trans ((w_up_slot (by decide)).trans ((w_up_slot (by decide)).trans ((w_up_slot (by decide)).trans ((w_up_slot (by decide)).trans ((w_up_slot (by decide)).trans (((tr14.2.2.2.1 217 (-1) (by decide) (by decide) (by decide) (Or.inl (by decide))).trans (rfl))))))))); omega) ⟨by omega, by omega⟩ ⟨by omega, by omega⟩ ⟨by omega, by omega⟩ ⟨by omega, by omega⟩) (fun oq38 Sq38 hp39 q38 => ?_)
                      rcases q38 with ⟨rfl, hgv38⟩
                      show wJ _ _ _ _ _ _ _ _ _ _
                      refine wa_return rfl ?_
                      refine ⟨rfl, Or.inr ⟨by omega, Sq14, (w_up (w_up (w_up (w_up (w_up (w_up Sq14 158 16 0) 158 17 0) 158 16 vk) 158 17 vb) 158 16 ky) 158 17 vy), tr14, ?_, ?_⟩⟩
                      · exact fun j i hji => (w_up_no (by omega)).trans ((w_up_no (by omega)).trans ((w_up_no (by omega)).trans ((w_up_no (by omega)).trans ((w_up_no (by omega)).trans ((w_up_no (by omega)).trans (rfl))))))
                      · first | (rw [if_pos (show kd = 1 by omega), if_pos (show kd = 1 by omega)]; exact hgv38) | (rw [if_neg (show ¬ kd = 1 by omega), if_neg (show ¬ kd = 1 by omega)]; exact hgv38)
                · skip
                  exact absurd c16 (by omega)
              · skip
                exact absurd c12 (by omega)
            · skip
              exact absurd c11 (by omega)
        · skip
          exact absurd c7 (by omega)
      · skip
        refine wa_aload_n (n := 2) rfl ?_
        refine wb_gf4 73 rfl (wy_pr rfl) wt_73 wf_3_3 (v := 96) wl_73_3 ?_
        refine wa_bipush (w_rg2 (by omega) (by omega)) ?_
        refine wb_aald5 96 15 rfl rfl (wy_pr rfl) wt_96 (by rw [show _ = _ from ((cl_96 hC))]; omega) wl_96_15 ?_
        refine wa_iload_n (n := 1) rfl ?_
        refine wb_iald 112 rfl (wy_pr rfl) wt_112 (n := 400) ((cl_112 hC)) (by omega) (by omega) (v := fl) (hmf) (fun r40 => ?_)
        refine wa_iconst ?_
        refine wa_icmpne (w_rg0 (by omega) (by omega)) (w_rg0 (by omega) (by omega)) ⟨_, rfl⟩ (fun c41 => ?_) (fun c41 => ?_)
        · skip
          refine wa_iconst ?_
          refine wa_fall ⟨_, rfl⟩ ?_
          refine wa_istore (n := 4) rfl ?_
          refine wa_iload_n (n := 3) rfl ?_
          refine wa_ifeq (w_rg0 (by omega) (by omega)) ⟨_, rfl⟩ (fun c42 => ?_) (fun c42 => ?_)
          · skip
            refine wa_iconst ?_
            refine wa_fall ⟨_, rfl⟩ ?_
            refine wa_istore (n := 5) rfl ?_
            refine wa_aload_n (n := 0) rfl ?_
            refine wb_gf4 158 rfl (wy_pr rfl) wt_158 wf_5_0 (v := 72) wl_158_0 ?_
            refine wb_gfi 72 rfl (wy_pr rfl) wt_72 wf_2_15 (v := tn) (ht15) (fun r43 => ?_)
            refine wa_iconst ?_
            refine wa_iadd ?_
            refine wb_ki (n := 100000) rfl ?_
            refine wa_icmpgt (w_rg0 (by omega) (by omega)) (w_rg0 (by omega) (by omega)) ⟨_, rfl⟩ (fun c44 => ?_) (fun c44 => ?_)
            · skip
              refine wa_aload_n (n := 0) rfl ?_
              refine wb_gf5 158 rfl (wy_pr rfl) wt_158 wf_5_4 (v := 215) (l4) (fun r45 => ?_)
              refine wa_bipush (w_rg2 (by omega) (by omega)) ?_
              refine wb_pfi 215 rfl (wy_pr rfl) wt_215 wf_8_16 (n := 16) rfl ⟨(by omega), (by omega)⟩ ?_
              refine wa_return rfl ?_
              exact ⟨rfl, Or.inl ⟨by omega, rfl⟩⟩
            · skip
              refine wa_iload_n (n := 3) rfl ?_
              refine wa_ifeq (w_rg0 (by omega) (by omega)) ⟨_, rfl⟩ (fun c46 => ?_) (fun c46 => ?_)
              · skip
                refine wa_iload (n := 4) rfl ?_
                refine wa_ifeq (w_rg0 (by omega) (by omega)) ⟨_, rfl⟩ (fun c47 => ?_) (fun c47 => ?_)
                · skip
                  refine wa_aload_n (n := 0) rfl ?_
                  refine wb_gf4 158 rfl (wy_pr rfl) wt_158 wf_5_0 (v := 72) wl_158_0 ?_
                  refine wa_iload_n (n := 1) rfl ?_
                  refine wa_aload_n (n := 0) rfl ?_
                  refine wb_gfi 158 rfl (wy_pr rfl) wt_158 wf_5_12 (v := en) (l12) (fun r48 => ?_)
                  refine wa_cv 72 rfl (wy_pr rfl) wt_72 (M2 := mS [152]) rfl at_XH_addTrace ⟨_, rfl⟩ rfl rfl ⟨trivial, trivial, trivial, (Or.inr ⟨wy_pr rfl, mS_no rfl⟩), (Or.inr ⟨wy_pr rfl, mS_no rfl⟩), trivial, trivial⟩ trivial (fun _ _ q => mS_sub (by decide) q) (tra (S := S) (m := m) (k := en) hI ⟨by omega, by omega⟩ ⟨by omega, by omega⟩ (by rw [ht15]; exact ht0) (by rw [ht15]; exact ht9)) (fun oq49 Sq49 hp50 q49 => ?_)
                  rcases q49 with ⟨rfl, tr49⟩
                  show wJ _ _ _ _ _ _ _ _ _ _
                  refine wa_aload_n (n := 0) rfl ?_
                  refine wa_iconst ?_
                  refine wb_pfi 158 rfl (wy_pr rfl) wt_158 wf_5_16 (n := 16) rfl ⟨(by omega), (by omega)⟩ ?_
                  refine wa_aload_n (n := 0) rfl ?_
                  refine wb_lconst (m := 0) rfl ?_
                  refine wb_pfl 158 rfl (wy_pr rfl) wt_158 wf_5_17 (n := 17) rfl ⟨(by omega), (by omega)⟩ ?_
                  refine wa_iload_n (n := 3) rfl ?_
                  refine wa_ifeq (w_rg0 (by omega) (by omega)) ⟨_, rfl⟩ (fun c51 => ?_) (fun c51 => ?_)
                  · skip
                    refine wa_aload_n (n := 2) rfl ?_
                    refine wb_gf4 73 rfl (wy_pr rfl) wt_73 wf_3_3 (v := 96) wl_73_3 ?_
                    refine wa_bipush (w_rg2 (by omega) (by omega)) ?_
                    refine wb_aald5 96 15 rfl rfl (wy_pr rfl) wt_96 (by rw [show _ = _ from ((w_up_slot (by decide)).trans ((w_up_slot (by decide)).trans (((tr49.2.2.2.1 96 (-1) (by decide) (by decide) (by decide) (Or.inl (by decide))).trans ((cl_96 hC))))))]; omega) wl_96_15 ?_
                    refine wa_iload_n (n := 1) rfl ?_
                    refine wb_iald 112 rfl (wy_pr rfl) wt_112 (n := 400) ((w_up_slot (by decide)).trans ((w_up_slot (by decide)).trans (((tr49.2.2.2.1 112 (-1) (by decide) (by decide) (by decide) (Or.inl (by decide))).trans ((cl_112 hC)))))) (by omega) (by omega) (v := fl) ((w_up_slot (by decide)).trans ((w_up_slot (by decide)).trans (((tr49.2.2.2.1 112 m (by decide) (by decide) (by decide) (Or.inl (by decide))).trans (hmf))))) (fun r52 => ?_)
                    refine wa_iconst ?_
                    refine wa_icmpeq (w_rg0 (by omega) (by omega)) (w_rg0 (by omega) (by omega)) ⟨_, rfl⟩ (fun c53 => ?_) (fun c53 => ?_)
                    · skip
                      exact absurd c53 (by omega)
                    · skip
                      refine wa_aload_n (n := 0) rfl ?_
                      refine wa_iload_n (n := 1) rfl ?_
                      refine wa_aload_n (n := 2) rfl ?_
                      refine wb_gf4 73 rfl (wy_pr rfl) wt_73 wf_3_3 (v := 96) wl_73_3 ?_
                      refine wa_bipush (w_rg2 (by omega) (by omega)) ?_
                      refine wb_aald5 96 15 rfl rfl (wy_pr rfl) wt_96 (by rw [show _ = _ from ((w_up_slot (by decide)).trans ((w_up_slot (by decide)).trans (((tr49.2.2.2.1 96 (-1) (by decide) (by decide) (by decide) (Or.inl (by decide))).trans ((cl_96 hC))))))]; omega) wl_96_15 ?_
                      refine wa_iload_n (n := 1) rfl ?_
                      refine wb_iald 112 rfl (wy_pr rfl) wt_112 (n := 400) ((w_up_slot (by decide)).trans ((w_up_slot (by decide)).trans (((tr49.2.2.2.1 112 (-1) (by decide) (by decide) (by decide) (Or.inl (by decide))).trans ((cl_112 hC)))))) (by omega) (by omega) (v := fl) ((w_up_slot (by decide)).trans ((w_up_slot (by decide)).trans (((tr49.2.2.2.1 112 m (by decide) (by decide) (by decide) (Or.inl (by decide))).trans (hmf))))) (fun r54 => ?_)
                      have hf2 : ∀ (j : Nat) (i : Int), j < 4000000 → j ≠ wG → j ≠ 152 → j ≠ 72 → j ≠ 158 → (w_up (w_up Sq49 158 16 0) 158 17 0) j i = S j i := fun j i a b c d e => (w_up_no (fun z => e z.1)).trans ((w_up_no (fun z => e z.1)).trans (tr49.2.2.2.1 j i a b c (Or.inl d)))
                      have el : (w_up (w_up Sq49 158 16 0) 158 17 0) 141 (-1) = S 141 (-1) := (hf2 141 _ (by first | decide | omega) (by first | decide | omega) (by first | decide | omega) (by first | decide | omega) (by first | decide | omega))
                      have el2 : (w_up (w_up Sq49 158 16 0) 158 17 0) 142 (-1) = S 142 (-1) := (hf2 142 _ (by first | decide | omega) (by first | decide | omega) (by first | decide | omega) (by first | decide | omega) (by first | decide | omega))
                      have el3 : (w_up (w_up Sq49 158 16 0) 158 17 0) 127 (-1) = S 127 (-1) := (hf2 127 _ (by first | decide | omega) (by first | decide | omega) (by first | decide | omega) (by first | decide | omega) (by first | decide | omega))
                      refine wa_cv 158 rfl (wy_pr rfl) wt_158 (M2 := fun _ => False) rfl at_XL_useField ⟨_, rfl⟩ rfl rfl ⟨trivial, trivial, trivial, (Or.inr ⟨wy_pr rfl, fun q => q⟩), (Or.inr ⟨wy_pr rfl, fun q => q⟩), trivial, trivial⟩ trivial (fun _ _ q => False.elim q) (usg0_73_215 (S := (w_up (w_up Sq49 158 16 0) 158 17 0)) (m := m) (f := fl) (w_CL_up (w_CL_up (CL_tr hC tr49) (by omega)) (by omega)) ((w_up_slot (by decide)).trans ((w_up_slot (by decide)).trans (((tr49.2.2.2.1 72 1 (by decide) (by decide) (by decide) (Or.inr (by decide))).trans (h72))))) ((w_up_at (by decide)).trans ((w_up_at (by decide)).trans (((tr49.2.2.2.1 158 5 (by decide) (by decide) (by decide) (Or.inl (by decide))).trans (l5))))) ((w_up_at (by decide)).trans ((w_up_at (by decide)).trans (((tr49.2.2.2.1 158 8 (by decide) (by decide) (by decide) (Or.inl (by decide))).trans (l8))))) (((w_up_at (by decide)).trans ((w_up_at (by decide)).trans ((tr49.2.2.2.1 158 10 (by decide) (by decide) (by decide) (Or.inl (by decide)))))).trans l10) hm hfl ((hf2 99 _ (by decide) (by decide) (by decide) (by decide) (by decide)).trans hstt) ((hf2 112 _ (by decide) (by decide) (by decide) (by decide) (by decide)).trans hfi) (fun x hx => by rw [hf2 (127 + x) (-1) (by omega) (by unfold wG; omega) (by omega) (by omega) (by omega), el3]; exact hth x hx) (by rw [el3]; exact hn2) (by rw [el, el2]; exact hl14) (by rw [el]; exact hz14) (by rw [el3]; exact hgb) ((hf2 133 _ (by decide) (by decide) (by decide) (by decide) (by decide)).trans hst) (by rw [el]; exact hrb) ((hf2 101 _ (by decide) (by decide) (by decide) (by decide) (by decide)).trans hmc) ((hf2 141 _ (by decide) (by decide) (by decide) (by decide) (by decide)).trans hvk) ((hf2 142 _ (by decide) (by decide) (by decide) (by decide) (by decide)).trans hvb)) (fun oq55 Sq55 hp56 q55 => ?_)
                      rcases q55 with ⟨rfl, rfl⟩
                      show wJ _ _ _ _ _ _ _ _ _ _
                      refine wa_goto ⟨_, rfl⟩ ?_
                      refine wa_aload_n (n := 0) rfl ?_
                      refine wb_gfi 158 rfl (wy_pr rfl) wt_158 wf_5_7 (v := kd) ((w_up_at (by decide)).trans ((w_up_at (by decide)).trans ((w_up_at (by decide)).trans ((w_up_at (by decide)).trans (((tr49.2.2.2.1 158 7 (by decide) (by decide) (by decide) (Or.inl (by decide))).trans (l7))))))) (fun r57 => ?_)
                      refine wa_iconst ?_
                      refine wa_icmpne (w_rg0 (by omega) (by omega)) (w_rg0 (by omega) (by omega)) ⟨_, rfl⟩ (fun c58 => ?_) (fun c58 => ?_)
                      · skip
                        refine wa_aload_n (n := 0) rfl ?_
                        refine wa_aload_n (n := 0) rfl ?_
                        refine wb_gfi 158 rfl (wy_pr rfl) wt_158 wf_5_16 (v := vk) ((w_up_at (by decide)).trans (w_up_same _ _ _ _)) (fun r59 => ?_)
                        refine wa_aload_n (n := 0) rfl ?_
                        refine wb_gfl 158 rfl (wy_pr rfl) wt_158 wf_5_17 (v := vb) (w_up_same _ _ _ _) (fun r60 => ?_)
                        refine wa_cv 158 rfl (wy_pr rfl) wt_158 (M2 := mS [217, 218]) rfl at_XL_giveValue ⟨_, rfl⟩ rfl rfl ⟨trivial, trivial, trivial, (Or.inr ⟨wy_pr rfl, mS_no rfl⟩), (Or.inr ⟨wy_pr rfl, mS_no rfl⟩), trivial, trivial⟩ trivial (fun _ _ q => mS_sub (by decide) q) (glx_215 (S := (w_up (w_up (w_up (w_up Sq49 158 16 0) 158 17 0) 158 16 vk) 158 17 vb)) (k := vk) (v := vb) (h := h) (c := c) (p := p) (ba := ba) (w_CL_up (w_CL_up (w_CL_up (w_CL_up (CL_tr hC tr49) (by omega)) (by omega)) (by omega)) (by omega)) (gI_up (gI_up (gI_up (gI_up tr49.2.2.2.2.2.1 (by omega) (by omega) (by omega)) (by omega) (by omega) (by omega)) (by omega) (by omega) (by omega)) (by omega) (by omega) (by omega)) ((w_up_at (by decide)).trans ((w_up_at (by decide)).trans ((w_up_at (by decide)).trans ((w_up_at (by decide)).trans (((tr49.2.2.2.1 158 4 (by decide) (by decide) (by decide) (Or.inl (by decide))).trans (l4))))))) ((w_up_at (by decide)).trans ((w_up_at (by decide)).trans ((w_up_at (by decide)).trans ((w_up_at (by decide)).trans (((tr49.2.2.2.1 158 5 (by decide) (by decide) (by decide) (Or.inl (by decide))).trans (l5))))))) ((w_up_at (by decide)).trans ((w_up_at (by decide)).trans ((w_up_at (by decide)).trans ((w_up_at (by decide)).trans (((tr49.2.2.2.1 158 8 (by decide) (by decide) (by decide) (Or.inl (by decide))).trans (l8))))))) ((w_up_slot (by decide)).trans ((w_up_slot (by decide)).trans ((w_up_slot (by decide)).trans ((w_up_slot (by decide)).trans (((tr49.2.2.2.1 215 4 (by decide) (by decide) (by decide) (Or.inl (by decide))).trans (bc))))))) ((w_up_slot (by decide)).trans ((w_up_slot (by decide)).trans ((w_up_slot (by decide)).trans ((w_up_slot (by decide)).trans (((tr49.2.2.2.1 220 (c - 1) (by decide) (by decide) (by decide) (Or.inl (by decide))).trans (bp))))))) ((((w_up_slot (by decide)).trans ((w_up_slot (by decide)).trans ((w_up_slot (by decide)).trans ((w_up_slot (by decide)).trans (((tr49.2.2.2.1 218 (-1) (by decide) (by decide) (by decide) (Or.inl (by decide))).trans (bl1)))))))).trans (((w_up_slot (by decide)).trans ((w_up_slot (by decide)).trans ((w_up_slot (by decide)).trans ((w_up_slot (by decide)).trans (((tr49.2.2.2.1 217 (-1) (by decide) (by decide) (by decide) (Or.inl (by decide))).trans (rfl)))))))).symm) (by have e : (w_up (w_up (w_up (w_up Sq49 158 16 0) 158 17 0) 158 16 vk) 158 17 vb) 217 (-1) = S 217 (-1) := ((w_up_slot (by decide)).trans ((w_up_slot (by decide)).trans ((w_up_slot (by decide)).trans ((w_up_slot (by decide)).trans (((tr49.2.2.2.1 217 (-1) (by decide) (by decide) (by decide) (Or.inl (by decide))).trans (rfl))))))); rw [e]; exact ⟨bl2, bl3⟩) (by have e : (w_up (w_up (w_up (w_up Sq49 158 16 0) 158 17 0) 158 16 vk) 158 17 vb) 217 (-1) = S 217 (-1) := ((w_up_slot (by decide)).trans ((w_up_slot (by decide)).trans ((w_up_slot (by decide)).trans ((w_up_slot (by decide)).trans (((tr49.2.2.2.1 217 (-1) (by decide) (by decide) (by decide) (Or.inl (by decide))).trans (rfl))))))); omega) ⟨by omega, by omega⟩ ⟨by omega, by omega⟩ ⟨by omega, by omega⟩ ⟨by omega, by omega⟩) (fun oq61 Sq61 hp62 q61 => ?_)
                        rcases q61 with ⟨rfl, hgv61⟩
                        show wJ _ _ _ _ _ _ _ _ _ _
                        refine wa_return rfl ?_
                        refine ⟨rfl, Or.inr ⟨by omega, Sq49, (w_up (w_up (w_up (w_up Sq49 158 16 0) 158 17 0) 158 16 vk) 158 17 vb), tr49, ?_, ?_⟩⟩
                        · exact fun j i hji => (w_up_no (by omega)).trans ((w_up_no (by omega)).trans ((w_up_no (by omega)).trans ((w_up_no (by omega)).trans (rfl))))
                        · first | (rw [if_pos (show kd = 1 by omega), if_pos (show kd = 1 by omega)]; exact hgv61) | (rw [if_neg (show ¬ kd = 1 by omega), if_neg (show ¬ kd = 1 by omega)]; exact hgv61)
                      · skip
                        refine wa_aload_n (n := 0) rfl ?_
                        refine wa_aload_n (n := 0) rfl ?_
                        refine wb_gf5 158 rfl (wy_pr rfl) wt_158 wf_5_5 (v := 216) ((w_up_at (by decide)).trans ((w_up_at (by decide)).trans ((w_up_at (by decide)).trans ((w_up_at (by decide)).trans (((tr49.2.2.2.1 158 5 (by decide) (by decide) (by decide) (Or.inl (by decide))).trans (l5))))))) (fun r63 => ?_)
                        refine wb_gf4 216 rfl (wy_pr rfl) wt_216 wf_7_0 (v := 217) wl_216_0 ?_
                        refine wa_aload_n (n := 0) rfl ?_
                        refine wb_gf5 158 rfl (wy_pr rfl) wt_158 wf_5_5 (v := 216) ((w_up_at (by decide)).trans ((w_up_at (by decide)).trans ((w_up_at (by decide)).trans ((w_up_at (by decide)).trans (((tr49.2.2.2.1 158 5 (by decide) (by decide) (by decide) (Or.inl (by decide))).trans (l5))))))) (fun r64 => ?_)
                        refine wb_gfi 216 rfl (wy_pr rfl) wt_216 wf_7_2 (v := h) ((w_up_slot (by decide)).trans ((w_up_slot (by decide)).trans ((w_up_slot (by decide)).trans ((w_up_slot (by decide)).trans (((tr49.2.2.2.1 216 2 (by decide) (by decide) (by decide) (Or.inl (by decide))).trans (bh))))))) (fun r65 => ?_)
                        refine wa_iconst ?_
                        refine wa_isub ?_
                        refine wb_bald 217 rfl (wy_pr rfl) wt_217 (n := (S 217 (-1))) ((w_up_slot (by decide)).trans ((w_up_slot (by decide)).trans ((w_up_slot (by decide)).trans ((w_up_slot (by decide)).trans (((tr49.2.2.2.1 217 (-1) (by decide) (by decide) (by decide) (Or.inl (by decide))).trans (rfl))))))) (by omega) (by omega) (v := ky) ((w_up_slot (by decide)).trans ((w_up_slot (by decide)).trans ((w_up_slot (by decide)).trans ((w_up_slot (by decide)).trans (((tr49.2.2.2.1 217 (h - 1) (by decide) (by decide) (by decide) (Or.inl (by decide))).trans (hky))))))) (fun r66 => ?_)
                        refine wb_pfi 158 rfl (wy_pr rfl) wt_158 wf_5_16 (n := 16) rfl ⟨(by omega), (by omega)⟩ ?_
                        refine wa_aload_n (n := 0) rfl ?_
                        refine wa_aload_n (n := 0) rfl ?_
                        refine wb_gf5 158 rfl (wy_pr rfl) wt_158 wf_5_5 (v := 216) ((w_up_at (by decide)).trans ((w_up_at (by decide)).trans ((w_up_at (by decide)).trans ((w_up_at (by decide)).trans ((w_up_at (by decide)).trans (((tr49.2.2.2.1 158 5 (by decide) (by decide) (by decide) (Or.inl (by decide))).trans (l5)))))))) (fun r67 => ?_)
                        refine wb_gf4 216 rfl (wy_pr rfl) wt_216 wf_7_1 (v := 218) wl_216_1 ?_
                        refine wa_aload_n (n := 0) rfl ?_
                        refine wb_gf5 158 rfl (wy_pr rfl) wt_158 wf_5_5 (v := 216) ((w_up_at (by decide)).trans ((w_up_at (by decide)).trans ((w_up_at (by decide)).trans ((w_up_at (by decide)).trans ((w_up_at (by decide)).trans (((tr49.2.2.2.1 158 5 (by decide) (by decide) (by decide) (Or.inl (by decide))).trans (l5)))))))) (fun r68 => ?_)
                        refine wb_gfi 216 rfl (wy_pr rfl) wt_216 wf_7_2 (v := h) ((w_up_slot (by decide)).trans ((w_up_slot (by decide)).trans ((w_up_slot (by decide)).trans ((w_up_slot (by decide)).trans ((w_up_slot (by decide)).trans (((tr49.2.2.2.1 216 2 (by decide) (by decide) (by decide) (Or.inl (by decide))).trans (bh)))))))) (fun r69 => ?_)
                        refine wa_iconst ?_
                        refine wa_isub ?_
                        refine wb_lald 218 rfl (wy_pr rfl) wt_218 (n := (S 217 (-1))) ((w_up_slot (by decide)).trans ((w_up_slot (by decide)).trans ((w_up_slot (by decide)).trans ((w_up_slot (by decide)).trans ((w_up_slot (by decide)).trans (((tr49.2.2.2.1 218 (-1) (by decide) (by decide) (by decide) (Or.inl (by decide))).trans (bl1)))))))) (by omega) (by omega) (v := vy) ((w_up_slot (by decide)).trans ((w_up_slot (by decide)).trans ((w_up_slot (by decide)).trans ((w_up_slot (by decide)).trans ((w_up_slot (by decide)).trans (((tr49.2.2.2.1 218 (h - 1) (by decide) (by decide) (by decide) (Or.inl (by decide))).trans (hvy)))))))) (fun r70 => ?_)
                        refine wb_pfl 158 rfl (wy_pr rfl) wt_158 wf_5_17 (n := 17) rfl ⟨(by omega), (by omega)⟩ ?_
                        refine wa_fall ⟨_, rfl⟩ ?_
                        refine wa_aload_n (n := 0) rfl ?_
                        refine wa_aload_n (n := 0) rfl ?_
                        refine wb_gfi 158 rfl (wy_pr rfl) wt_158 wf_5_16 (v := ky) ((w_up_at (by decide)).trans (w_up_same _ _ _ _)) (fun r71 => ?_)
                        refine wa_aload_n (n := 0) rfl ?_
                        refine wb_gfl 158 rfl (wy_pr rfl) wt_158 wf_5_17 (v := vy) (w_up_same _ _ _ _) (fun r72 => ?_)
                        refine wa_cv 158 rfl (wy_pr rfl) wt_158 (M2 := mS [217, 218]) rfl at_XL_giveValue ⟨_, rfl⟩ rfl rfl ⟨trivial, trivial, trivial, (Or.inr ⟨wy_pr rfl, mS_no rfl⟩), (Or.inr ⟨wy_pr rfl, mS_no rfl⟩), trivial, trivial⟩ trivial (fun _ _ q => mS_sub (by decide) q) (glx_215 (S := (w_up (w_up (w_up (w_up (w_up (w_up Sq49 158 16 0) 158 17 0) 158 16 vk) 158 17 vb) 158 16 ky) 158 17 vy)) (k := ky) (v := vy) (h := h) (c := c) (p := p) (ba := ba) (w_CL_up (w_CL_up (w_CL_up (w_CL_up (w_CL_up (w_CL_up (CL_tr hC tr49) (by omega)) (by omega)) (by omega)) (by omega)) (by omega)) (by omega)) (gI_up (gI_up (gI_up (gI_up (gI_up (gI_up tr49.2.2.2.2.2.1 (by omega) (by omega) (by omega)) (by omega) (by omega) (by omega)) (by omega) (by omega) (by omega)) (by omega) (by omega) (by omega)) (by omega) (by omega) (by omega)) (by omega) (by omega) (by omega)) ((w_up_at (by decide)).trans ((w_up_at (by decide)).trans ((w_up_at (by decide)).trans ((w_up_at (by decide)).trans ((w_up_at (by decide)).trans ((w_up_at (by decide)).trans (((tr49.2.2.2.1 158 4 (by decide) (by decide) (by decide) (Or.inl (by decide))).trans (l4))))))))) ((w_up_at (by decide)).trans ((w_up_at (by decide)).trans ((w_up_at (by decide)).trans ((w_up_at (by decide)).trans ((w_up_at (by decide)).trans ((w_up_at (by decide)).trans (((tr49.2.2.2.1 158 5 (by decide) (by decide) (by decide) (Or.inl (by decide))).trans (l5))))))))) ((w_up_at (by decide)).trans ((w_up_at (by decide)).trans ((w_up_at (by decide)).trans ((w_up_at (by decide)).trans ((w_up_at (by decide)).trans ((w_up_at (by decide)).trans (((tr49.2.2.2.1 158 8 (by decide) (by decide) (by decide) (Or.inl (by decide))).trans (l8))))))))) ((w_up_slot (by decide)).trans ((w_up_slot (by decide)).trans ((w_up_slot (by decide)).trans ((w_up_slot (by decide)).trans ((w_up_slot (by decide)).trans ((w_up_slot (by decide)).trans (((tr49.2.2.2.1 215 4 (by decide) (by decide) (by decide) (Or.inl (by decide))).trans (bc))))))))) ((w_up_slot (by decide)).trans ((w_up_slot (by decide)).trans ((w_up_slot (by decide)).trans ((w_up_slot (by decide)).trans ((w_up_slot (by decide)).trans ((w_up_slot (by decide)).trans (((tr49.2.2.2.1 220 (c - 1) (by decide) (by decide) (by decide) (Or.inl (by decide))).trans (bp))))))))) ((((w_up_slot (by decide)).trans ((w_up_slot (by decide)).trans ((w_up_slot (by decide)).trans ((w_up_slot (by decide)).trans ((w_up_slot (by decide)).trans ((w_up_slot (by decide)).trans (((tr49.2.2.2.1 218 (-1) (by decide) (by decide) (by decide) (Or.inl (by decide))).trans (bl1)))))))))).trans (((w_up_slot (by decide)).trans ((w_up_slot (by decide)).trans ((w_up_slot (by decide)).trans ((w_up_slot (by decide)).trans ((w_up_slot (by decide)).trans ((w_up_slot (by decide)).trans (((tr49.2.2.2.1 217 (-1) (by decide) (by decide) (by decide) (Or.inl (by decide))).trans (rfl)))))))))).symm) (by have e : (w_up (w_up (w_up (w_up (w_up (w_up Sq49 158 16 0) 158 17 0) 158 16 vk) 158 17 vb) 158 16 ky) 158 17 vy) 217 (-1) = S 217 (-1) := ((w_up_slot (by decide)).trans ((w_up_slot (by decide)).trans ((w_up_slot (by decide)).trans ((w_up_slot (by decide)).trans ((w_up_slot (by decide)).trans ((w_up_slot (by decide)).trans (((tr49.2.2.2.1 217 (-1) (by decide) (by decide) (by decide) (Or.inl (by decide))).trans (rfl))))))))); rw [e]; exact ⟨bl2, bl3⟩) (by have e : (w_up (w_up (w_up (w_up (w_up (w_up Sq49 158 16 0) 158 17 0) 158 16 vk) 158 17 vb) 158 16 ky) 158 17 vy) 217 (-1) = S 217 (-1) := ((w_up_slot (by decide)).trans ((w_up_slot (by decide)).trans ((w_up_slot (by decide)).trans ((w_up_slot (by decide)).trans ((w_up_slot (by decide)).trans ((w_up_slot (by decide)).trans (((tr49.2.2.2.1 217 (-1) (by decide) (by decide) (by decide) (Or.inl (by decide))).trans (rfl))))))))); omega) ⟨by omega, by omega⟩ ⟨by omega, by omega⟩ ⟨by omega, by omega⟩ ⟨by omega, by omega⟩) (fun oq73 Sq73 hp74 q73 => ?_)
                        rcases q73 with ⟨rfl, hgv73⟩
                        show wJ _ _ _ _ _ _ _ _ _ _
                        refine wa_return rfl ?_
                        refine ⟨rfl, Or.inr ⟨by omega, Sq49, (w_up (w_up (w_up (w_up (w_up (w_up Sq49 158 16 0) 158 17 0) 158 16 vk) 158 17 vb) 158 16 ky) 158 17 vy), tr49, ?_, ?_⟩⟩
                        · exact fun j i hji => (w_up_no (by omega)).trans ((w_up_no (by omega)).trans ((w_up_no (by omega)).trans ((w_up_no (by omega)).trans ((w_up_no (by omega)).trans ((w_up_no (by omega)).trans (rfl))))))
                        · first | (rw [if_pos (show kd = 1 by omega), if_pos (show kd = 1 by omega)]; exact hgv73) | (rw [if_neg (show ¬ kd = 1 by omega), if_neg (show ¬ kd = 1 by omega)]; exact hgv73)
                  · skip
                    exact absurd c51 (by omega)
                · skip
                  exact absurd c47 (by omega)
              · skip
                exact absurd c46 (by omega)
          · skip
            exact absurd c42 (by omega)
        · skip
          exact absurd c41 (by omega)
  · skip
    exact absurd c3 (by omega)
set_option maxHeartbeats 4000000 in
theorem cms0_73_215 {c p h kd ba m en tn ky vy fl fi gb ty st k1 v1 : Int} (hP : xP 215 c p h S) (l4 : S 158 4 = 215) (l5 : S 158 5 = 216) (l7 : S 158 7 = kd) (l8 : S 158 8 = ba) (l12 : S 158 12 = en) (hen : 0 ≤ en ∧ en ≤ 1000) (hba : 0 ≤ ba ∧ ba < h) (h72 : S 72 1 = 73) (hm : 0 ≤ m ∧ m < 400) (hso : S 98 m = 1) (ht15 : S 72 15 = tn) (ht0 : 0 ≤ tn ∧ tn ≤ S 152 (-1) ∧ tn ≤ 100000) (ht9 : 16 ≤ S 152 (-1) ∧ S 152 (-1) ≤ 131072 ∨ (16 ≤ S 152 (-1) ∧ S 152 (-1) ≤ 262143 ∧ tn + 2 ≤ S 152 (-1))) (hky : S 217 (h - 1) = ky) (hvy : S 218 (h - 1) = vy) (hkr : -128 ≤ ky ∧ ky ≤ 127) (hvr : -9223372036854775808 ≤ vy ∧ vy ≤ 9223372036854775807) (hmf : S 112 m = fl) (hfl : 0 ≤ fl ∧ fl < 400) (hstt : S 99 fl = 0) (hfi : S 112 fl = fi) (l10 : S 158 10 = gb) (hmt : S 100 m = ty) (hmc : S 101 m = 1) (hth : ∀ x : Nat, x < 10 → S (127 + x) (-1) = S 127 (-1)) (hn2 : S 127 (-1) ≤ 16383) (hl14 : S 142 (-1) = S 141 (-1)) (hz14 : 16 ≤ S 141 (-1) ∧ S 141 (-1) ≤ 480400) (hgb : 0 ≤ gb ∧ gb < S 127 (-1)) (hst : S 133 gb = st) (hrb : 0 ≤ st ∧ 0 ≤ fi ∧ fi ≤ 1000 ∧ st + fi < S 141 (-1)) (hb1 : ba + 1 < h) (hk1 : S 217 (ba + 1) = k1) (hv1 : S 218 (ba + 1) = v1) : wJ (pe_GA xs) wY0 (mS [217, 218, 152]) (d + 6) t_XL_callMember ((pe_at t_XL_callMember.bl 0).getD (0, [])).2 [(0, (2, 158)), (1, (0, m))] [] S (fun o Z => o = .inl none ∧ ((100000 < tn + 2 ∧ w_up S 215 16 99 = Z) ∨ (¬ (100000 < tn + 2) ∧ cmE 215 h c p (h - ba) kd ky vy 0 0 m en (fun A B => gvR (w_up (w_up A 141 (st + fi) k1) 142 (st + fi) v1) B) S Z))) := by
  obtain ⟨⟨hC, hI⟩, ⟨bc, bc0, bc1⟩, ⟨bp, bp0, bp1⟩, ⟨bh, bh0, bh1, bh2⟩, bl1, bl2, bl3⟩ := hP
  replace bp : S 220 (c - 1) = p := bp
  replace bh : S 216 2 = h := bh
  replace bh2 : h ≤ S 217 (-1) := bh2
  replace bl1 : S 218 (-1) = S 217 (-1) := bl1
  replace bl2 : 64 ≤ S 217 (-1) := bl2
  replace bl3 : S 217 (-1) ≤ 4095 := bl3
  refine wa_aload_n (n := 0) rfl ?_
  refine wb_gf4 158 rfl (wy_pr rfl) wt_158 wf_5_0 (v := 72) wl_158_0 ?_
  refine wb_gf5 72 rfl (wy_pr rfl) wt_72 wf_2_1 (v := 73) (h72) (fun r1 => ?_)
  refine wa_astore_n (n := 2) rfl ?_
  refine wa_aload_n (n := 2) rfl ?_
  refine wb_gf4 73 rfl (wy_pr rfl) wt_73 wf_3_3 (v := 96) wl_73_3 ?_
  refine wa_iconst ?_
  refine wb_aald5 96 1 rfl rfl (wy_pr rfl) wt_96 (by rw [show _ = _ from ((cl_96 hC))]; omega) wl_96_1 ?_
  refine wa_iload_n (n := 1) rfl ?_
  refine wb_iald 98 rfl (wy_pr rfl) wt_98 (n := 400) ((cl_98 hC)) (by omega) (by omega) (v := 1) (hso) (fun r2 => ?_)
  refine wa_iconst ?_
  refine wa_icmpne (w_rg0 (by omega) (by omega)) (w_rg0 (by omega) (by omega)) ⟨_, rfl⟩ (fun c3 => ?_) (fun c3 => ?_)
  · skip
    refine wa_iconst ?_
    refine wa_fall ⟨_, rfl⟩ ?_
    refine wa_istore_n (n := 3) rfl ?_
    refine wa_iload_n (n := 3) rfl ?_
    refine wa_ifne (w_rg0 (by omega) (by omega)) ⟨_, rfl⟩ (fun c4 => ?_) (fun c4 => ?_)
    · skip
      exact absurd c4 (by omega)
    · skip
      refine wa_aload_n (n := 2) rfl ?_
      refine wb_gf4 73 rfl (wy_pr rfl) wt_73 wf_3_3 (v := 96) wl_73_3 ?_
      refine wa_iconst ?_
      refine wb_aald5 96 3 rfl rfl (wy_pr rfl) wt_96 (by rw [show _ = _ from ((cl_96 hC))]; omega) wl_96_3 ?_
      refine wa_iload_n (n := 1) rfl ?_
      refine wb_iald 100 rfl (wy_pr rfl) wt_100 (n := 400) ((cl_100 hC)) (by omega) (by omega) (v := ty) (hmt) (fun r5 => ?_)
      refine wa_bipush (w_rg2 (by omega) (by omega)) ?_
      refine wa_icmpne (w_rg0 (by omega) (by omega)) (w_rg0 (by omega) (by omega)) ⟨_, rfl⟩ (fun c6 => ?_) (fun c6 => ?_)
      · skip
        refine wa_iconst ?_
        refine wa_fall ⟨_, rfl⟩ ?_
        refine wa_istore (n := 4) rfl ?_
        refine wa_iload_n (n := 3) rfl ?_
        refine wa_ifeq (w_rg0 (by omega) (by omega)) ⟨_, rfl⟩ (fun c7 => ?_) (fun c7 => ?_)
        · skip
          refine wa_iconst ?_
          refine wa_fall ⟨_, rfl⟩ ?_
          refine wa_istore (n := 5) rfl ?_
          refine wa_aload_n (n := 0) rfl ?_
          refine wb_gf4 158 rfl (wy_pr rfl) wt_158 wf_5_0 (v := 72) wl_158_0 ?_
          refine wb_gfi 72 rfl (wy_pr rfl) wt_72 wf_2_15 (v := tn) (ht15) (fun r8 => ?_)
          refine wa_iconst ?_
          refine wa_iadd ?_
          refine wb_ki (n := 100000) rfl ?_
          refine wa_icmpgt (w_rg0 (by omega) (by omega)) (w_rg0 (by omega) (by omega)) ⟨_, rfl⟩ (fun c9 => ?_) (fun c9 => ?_)
          · skip
            refine wa_aload_n (n := 0) rfl ?_
            refine wb_gf5 158 rfl (wy_pr rfl) wt_158 wf_5_4 (v := 215) (l4) (fun r10 => ?_)
            refine wa_bipush (w_rg2 (by omega) (by omega)) ?_
            refine wb_pfi 215 rfl (wy_pr rfl) wt_215 wf_8_16 (n := 16) rfl ⟨(by omega), (by omega)⟩ ?_
            refine wa_return rfl ?_
            exact ⟨rfl, Or.inl ⟨by omega, rfl⟩⟩
          · skip
            refine wa_iload_n (n := 3) rfl ?_
            refine wa_ifeq (w_rg0 (by omega) (by omega)) ⟨_, rfl⟩ (fun c11 => ?_) (fun c11 => ?_)
            · skip
              refine wa_iload (n := 4) rfl ?_
              refine wa_ifeq (w_rg0 (by omega) (by omega)) ⟨_, rfl⟩ (fun c12 => ?_) (fun c12 => ?_)
              · skip
                refine wa_aload_n (n := 0) rfl ?_
                refine wb_gf4 158 rfl (wy_pr rfl) wt_158 wf_5_0 (v := 72) wl_158_0 ?_
                refine wa_iload_n (n := 1) rfl ?_
                refine wa_aload_n (n := 0) rfl ?_
                refine wb_gfi 158 rfl (wy_pr rfl) wt_158 wf_5_12 (v := en) (l12) (fun r13 => ?_)
                refine wa_cv 72 rfl (wy_pr rfl) wt_72 (M2 := mS [152]) rfl at_XH_addTrace ⟨_, rfl⟩ rfl rfl ⟨trivial, trivial, trivial, (Or.inr ⟨wy_pr rfl, mS_no rfl⟩), (Or.inr ⟨wy_pr rfl, mS_no rfl⟩), trivial, trivial⟩ trivial (fun _ _ q => mS_sub (by decide) q) (tra (S := S) (m := m) (k := en) hI ⟨by omega, by omega⟩ ⟨by omega, by omega⟩ (by rw [ht15]; exact ht0) (by rw [ht15]; exact ht9)) (fun oq14 Sq14 hp15 q14 => ?_)
                rcases q14 with ⟨rfl, tr14⟩
                show wJ _ _ _ _ _ _ _ _ _ _
                refine wa_aload_n (n := 0) rfl ?_
                refine wa_iconst ?_
                refine wb_pfi 158 rfl (wy_pr rfl) wt_158 wf_5_16 (n := 16) rfl ⟨(by omega), (by omega)⟩ ?_
                refine wa_aload_n (n := 0) rfl ?_
                refine wb_lconst (m := 0) rfl ?_
                refine wb_pfl 158 rfl (wy_pr rfl) wt_158 wf_5_17 (n := 17) rfl ⟨(by omega), (by omega)⟩ ?_
                refine wa_iload_n (n := 3) rfl ?_
                refine wa_ifeq (w_rg0 (by omega) (by omega)) ⟨_, rfl⟩ (fun c16 => ?_) (fun c16 => ?_)
                · skip
                  refine wa_aload_n (n := 2) rfl ?_
                  refine wb_gf4 73 rfl (wy_pr rfl) wt_73 wf_3_3 (v := 96) wl_73_3 ?_
                  refine wa_bipush (w_rg2 (by omega) (by omega)) ?_
                  refine wb_aald5 96 15 rfl rfl (wy_pr rfl) wt_96 (by rw [show _ = _ from ((w_up_slot (by decide)).trans ((w_up_slot (by decide)).trans (((tr14.2.2.2.1 96 (-1) (by decide) (by decide) (by decide) (Or.inl (by decide))).trans ((cl_96 hC))))))]; omega) wl_96_15 ?_
                  refine wa_iload_n (n := 1) rfl ?_
                  refine wb_iald 112 rfl (wy_pr rfl) wt_112 (n := 400) ((w_up_slot (by decide)).trans ((w_up_slot (by decide)).trans (((tr14.2.2.2.1 112 (-1) (by decide) (by decide) (by decide) (Or.inl (by decide))).trans ((cl_112 hC)))))) (by omega) (by omega) (v := fl) ((w_up_slot (by decide)).trans ((w_up_slot (by decide)).trans (((tr14.2.2.2.1 112 m (by decide) (by decide) (by decide) (Or.inl (by decide))).trans (hmf))))) (fun r17 => ?_)
                  refine wa_iconst ?_
                  refine wa_icmpeq (w_rg0 (by omega) (by omega)) (w_rg0 (by omega) (by omega)) ⟨_, rfl⟩ (fun c18 => ?_) (fun c18 => ?_)
                  · skip
                    exact absurd c18 (by omega)
                  · skip
                    refine wa_aload_n (n := 0) rfl ?_
                    refine wa_iload_n (n := 1) rfl ?_
                    refine wa_aload_n (n := 2) rfl ?_
                    refine wb_gf4 73 rfl (wy_pr rfl) wt_73 wf_3_3 (v := 96) wl_73_3 ?_
                    refine wa_bipush (w_rg2 (by omega) (by omega)) ?_
                    refine wb_aald5 96 15 rfl rfl (wy_pr rfl) wt_96 (by rw [show _ = _ from ((w_up_slot (by decide)).trans ((w_up_slot (by decide)).trans (((tr14.2.2.2.1 96 (-1) (by decide) (by decide) (by decide) (Or.inl (by decide))).trans ((cl_96 hC))))))]; omega) wl_96_15 ?_
                    refine wa_iload_n (n := 1) rfl ?_
                    refine wb_iald 112 rfl (wy_pr rfl) wt_112 (n := 400) ((w_up_slot (by decide)).trans ((w_up_slot (by decide)).trans (((tr14.2.2.2.1 112 (-1) (by decide) (by decide) (by decide) (Or.inl (by decide))).trans ((cl_112 hC)))))) (by omega) (by omega) (v := fl) ((w_up_slot (by decide)).trans ((w_up_slot (by decide)).trans (((tr14.2.2.2.1 112 m (by decide) (by decide) (by decide) (Or.inl (by decide))).trans (hmf))))) (fun r19 => ?_)
                    have hf2 : ∀ (j : Nat) (i : Int), j < 4000000 → j ≠ wG → j ≠ 152 → j ≠ 72 → j ≠ 158 → (w_up (w_up Sq14 158 16 0) 158 17 0) j i = S j i := fun j i a b c d e => (w_up_no (fun z => e z.1)).trans ((w_up_no (fun z => e z.1)).trans (tr14.2.2.2.1 j i a b c (Or.inl d)))
                    have el : (w_up (w_up Sq14 158 16 0) 158 17 0) 141 (-1) = S 141 (-1) := (hf2 141 _ (by first | decide | omega) (by first | decide | omega) (by first | decide | omega) (by first | decide | omega) (by first | decide | omega))
                    have el2 : (w_up (w_up Sq14 158 16 0) 158 17 0) 142 (-1) = S 142 (-1) := (hf2 142 _ (by first | decide | omega) (by first | decide | omega) (by first | decide | omega) (by first | decide | omega) (by first | decide | omega))
                    have el3 : (w_up (w_up Sq14 158 16 0) 158 17 0) 127 (-1) = S 127 (-1) := (hf2 127 _ (by first | decide | omega) (by first | decide | omega) (by first | decide | omega) (by first | decide | omega) (by first | decide | omega))
                    have el8 : (w_up (w_up Sq14 158 16 0) 158 17 0) 217 (-1) = S 217 (-1) := (hf2 217 _ (by first | decide | omega) (by first | decide | omega) (by first | decide | omega) (by first | decide | omega) (by first | decide | omega))
                    have el9 : (w_up (w_up Sq14 158 16 0) 158 17 0) 218 (-1) = S 218 (-1) := (hf2 218 _ (by first | decide | omega) (by first | decide | omega) (by first | decide | omega) (by first | decide | omega) (by first | decide | omega))
                    refine wa_cv 158 rfl (wy_pr rfl) wt_158 (M2 := fun _ => False) rfl at_XL_useField ⟨_, rfl⟩ rfl rfl ⟨trivial, trivial, trivial, (Or.inr ⟨wy_pr rfl, fun q => q⟩), (Or.inr ⟨wy_pr rfl, fun q => q⟩), trivial, trivial⟩ trivial (fun _ _ q => False.elim q) (uss0_73_215 (S := (w_up (w_up Sq14 158 16 0) 158 17 0)) (m := m) (f := fl) (w_CL_up (w_CL_up (CL_tr hC tr14) (by omega)) (by omega)) ((w_up_slot (by decide)).trans ((w_up_slot (by decide)).trans (((tr14.2.2.2.1 72 1 (by decide) (by decide) (by decide) (Or.inr (by decide))).trans (h72))))) ((w_up_at (by decide)).trans ((w_up_at (by decide)).trans (((tr14.2.2.2.1 158 5 (by decide) (by decide) (by decide) (Or.inl (by decide))).trans (l5))))) ((w_up_at (by decide)).trans ((w_up_at (by decide)).trans (((tr14.2.2.2.1 158 8 (by decide) (by decide) (by decide) (Or.inl (by decide))).trans (l8))))) (((w_up_at (by decide)).trans ((w_up_at (by decide)).trans ((tr14.2.2.2.1 158 10 (by decide) (by decide) (by decide) (Or.inl (by decide)))))).trans l10) hm hfl ((hf2 99 _ (by decide) (by decide) (by decide) (by decide) (by decide)).trans hstt) ((hf2 112 _ (by decide) (by decide) (by decide) (by decide) (by decide)).trans hfi) (fun x hx => by rw [hf2 (127 + x) (-1) (by omega) (by unfold wG; omega) (by omega) (by omega) (by omega), el3]; exact hth x hx) (by rw [el3]; exact hn2) (by rw [el, el2]; exact hl14) (by rw [el]; exact hz14) (by rw [el3]; exact hgb) ((hf2 133 _ (by decide) (by decide) (by decide) (by decide) (by decide)).trans hst) (by rw [el]; exact hrb) ((hf2 101 _ (by decide) (by decide) (by decide) (by decide) (by decide)).trans hmc) (by rw [el8, el9]; exact bl1) (by rw [el8]; exact ⟨by omega, by omega, bl3⟩) ((hf2 217 _ (by decide) (by decide) (by decide) (by decide) (by decide)).trans hk1) ((hf2 218 _ (by decide) (by decide) (by decide) (by decide) (by decide)).trans hv1)) (fun oq20 Sq20 hp21 q20 => ?_)
                    rcases q20 with ⟨rfl, rfl⟩
                    show wJ _ _ _ _ _ _ _ _ _ _
                    refine wa_goto ⟨_, rfl⟩ ?_
                    refine wa_aload_n (n := 0) rfl ?_
                    refine wb_gfi 158 rfl (wy_pr rfl) wt_158 wf_5_7 (v := kd) ((w_up_slot (by decide)).trans ((w_up_slot (by decide)).trans ((w_up_at (by decide)).trans ((w_up_at (by decide)).trans (((tr14.2.2.2.1 158 7 (by decide) (by decide) (by decide) (Or.inl (by decide))).trans (l7))))))) (fun r22 => ?_)
                    refine wa_iconst ?_
                    refine wa_icmpne (w_rg0 (by omega) (by omega)) (w_rg0 (by omega) (by omega)) ⟨_, rfl⟩ (fun c23 => ?_) (fun c23 => ?_)
                    · skip
                      refine wa_aload_n (n := 0) rfl ?_
                      refine wa_aload_n (n := 0) rfl ?_
                      refine wb_gfi 158 rfl (wy_pr rfl) wt_158 wf_5_16 (v := 0) ((w_up_slot (by decide)).trans ((w_up_slot (by decide)).trans ((w_up_at (by decide)).trans (w_up_same _ _ _ _)))) (fun r24 => ?_)
                      refine wa_aload_n (n := 0) rfl ?_
                      refine wb_gfl 158 rfl (wy_pr rfl) wt_158 wf_5_17 (v := 0) ((w_up_slot (by decide)).trans ((w_up_slot (by decide)).trans (w_up_same _ _ _ _))) (fun r25 => ?_)
                      refine wa_cv 158 rfl (wy_pr rfl) wt_158 (M2 := mS [217, 218]) rfl at_XL_giveValue ⟨_, rfl⟩ rfl rfl ⟨trivial, trivial, trivial, (Or.inr ⟨wy_pr rfl, mS_no rfl⟩), (Or.inr ⟨wy_pr rfl, mS_no rfl⟩), trivial, trivial⟩ trivial (fun _ _ q => mS_sub (by decide) q) (glx_215 (S := (w_up (w_up (w_up (w_up Sq14 158 16 0) 158 17 0) 141 (st + fi) k1) 142 (st + fi) v1)) (k := 0) (v := 0) (h := h) (c := c) (p := p) (ba := ba) (w_CL_up (w_CL_up (w_CL_up (w_CL_up (CL_tr hC tr14) (by omega)) (by omega)) (by omega)) (by omega)) (gI_up (gI_up (gI_up (gI_up tr14.2.2.2.2.2.1 (by omega) (by omega) (by omega)) (by omega) (by omega) (by omega)) (by omega) (by omega) (by omega)) (by omega) (by omega) (by omega)) ((w_up_slot (by decide)).trans ((w_up_slot (by decide)).trans ((w_up_at (by decide)).trans ((w_up_at (by decide)).trans (((tr14.2.2.2.1 158 4 (by decide) (by decide) (by decide) (Or.inl (by decide))).trans (l4))))))) ((w_up_slot (by decide)).trans ((w_up_slot (by decide)).trans ((w_up_at (by decide)).trans ((w_up_at (by decide)).trans (((tr14.2.2.2.1 158 5 (by decide) (by decide) (by decide) (Or.inl (by decide))).trans (l5))))))) ((w_up_slot (by decide)).trans ((w_up_slot (by decide)).trans ((w_up_at (by decide)).trans ((w_up_at (by decide)).trans (((tr14.2.2.2.1 158 8 (by decide) (by decide) (by decide) (Or.inl (by decide))).trans (l8))))))) ((w_up_slot (by decide)).trans ((w_up_slot (by decide)).trans ((w_up_slot (by decide)).trans ((w_up_slot (by decide)).trans (((tr14.2.2.2.1 215 4 (by decide) (by decide) (by decide) (Or.inl (by decide))).trans (bc))))))) ((w_up_slot (by decide)).trans ((w_up_slot (by decide)).trans ((w_up_slot (by decide)).trans ((w_up_slot (by decide)).trans (((tr14.2.2.2.1 220 (c - 1) (by decide) (by decide) (by decide) (Or.inl (by decide))).trans (bp))))))) ((((w_up_slot (by decide)).trans ((w_up_slot (by decide)).trans ((w_up_slot (by decide)).trans ((w_up_slot (by decide)).trans (((tr14.2.2.2.1 218 (-1) (by decide) (by decide) (by decide) (Or.inl (by decide))).trans (bl1)))))))).trans (((w_up_slot (by decide)).trans ((w_up_slot (by decide)).trans ((w_up_slot (by decide)).trans ((w_up_slot (by decide)).trans (((tr14.2.2.2.1 217 (-1) (by decide) (by decide) (by decide) (Or.inl (by decide))).trans (rfl)))))))).symm) (by have e : (w_up (w_up (w_up (w_up Sq14 158 16 0) 158 17 0) 141 (st + fi) k1) 142 (st + fi) v1) 217 (-1) = S 217 (-1) := ((w_up_slot (by decide)).trans ((w_up_slot (by decide)).trans ((w_up_slot (by decide)).trans ((w_up_slot (by decide)).trans (((tr14.2.2.2.1 217 (-1) (by decide) (by decide) (by decide) (Or.inl (by decide))).trans (rfl))))))); rw [e]; exact ⟨bl2, bl3⟩) (by have e : (w_up (w_up (w_up (w_up Sq14 158 16 0) 158 17 0) 141 (st + fi) k1) 142 (st + fi) v1) 217 (-1) = S 217 (-1) := ((w_up_slot (by decide)).trans ((w_up_slot (by decide)).trans ((w_up_slot (by decide)).trans ((w_up_slot (by decide)).trans (((tr14.2.2.2.1 217 (-1) (by decide) (by decide) (by decide) (Or.inl (by decide))).trans (rfl))))))); omega) ⟨by omega, by omega⟩ ⟨by omega, by omega⟩ ⟨by omega, by omega⟩ ⟨by omega, by omega⟩) (fun oq26 Sq26 hp27 q26 => ?_)
                      rcases q26 with ⟨rfl, hgv26⟩
                      show wJ _ _ _ _ _ _ _ _ _ _
                      refine wa_return rfl ?_
                      refine ⟨rfl, Or.inr ⟨by omega, Sq14, (w_up (w_up (w_up (w_up Sq14 158 16 0) 158 17 0) 141 (st + fi) k1) 142 (st + fi) v1), tr14, ?_, ?_⟩⟩
                      · exact fun j i hji => w_up_cg2 (w_up_cg2 ((w_up_no (by omega)).trans (w_up_no (by omega))))
                      · first | (rw [if_pos (show kd = 1 by omega), if_pos (show kd = 1 by omega)]; exact hgv26) | (rw [if_neg (show ¬ kd = 1 by omega), if_neg (show ¬ kd = 1 by omega)]; exact hgv26)
                    · skip
                      refine wa_aload_n (n := 0) rfl ?_
                      refine wa_aload_n (n := 0) rfl ?_
                      refine wb_gf5 158 rfl (wy_pr rfl) wt_158 wf_5_5 (v := 216) ((w_up_slot (by decide)).trans ((w_up_slot (by decide)).trans ((w_up_at (by decide)).trans ((w_up_at (by decide)).trans (((tr14.2.2.2.1 158 5 (by decide) (by decide) (by decide) (Or.inl (by decide))).trans (l5))))))) (fun r28 => ?_)
                      refine wb_gf4 216 rfl (wy_pr rfl) wt_216 wf_7_0 (v := 217) wl_216_0 ?_
                      refine wa_aload_n (n := 0) rfl ?_
                      refine wb_gf5 158 rfl (wy_pr rfl) wt_158 wf_5_5 (v := 216) ((w_up_slot (by decide)).trans ((w_up_slot (by decide)).trans ((w_up_at (by decide)).trans ((w_up_at (by decide)).trans (((tr14.2.2.2.1 158 5 (by decide) (by decide) (by decide) (Or.inl (by decide))).trans (l5))))))) (fun r29 => ?_)
                      refine wb_gfi 216 rfl (wy_pr rfl) wt_216 wf_7_2 (v := h) ((w_up_slot (by decide)).trans ((w_up_slot (by decide)).trans ((w_up_slot (by decide)).trans ((w_up_slot (by decide)).trans (((tr14.2.2.2.1 216 2 (by decide) (by decide) (by decide) (Or.inl (by decide))).trans (bh))))))) (fun r30 => ?_)
                      refine wa_iconst ?_
                      refine wa_isub ?_
                      refine wb_bald 217 rfl (wy_pr rfl) wt_217 (n := (S 217 (-1))) ((w_up_slot (by decide)).trans ((w_up_slot (by decide)).trans ((w_up_slot (by decide)).trans ((w_up_slot (by decide)).trans (((tr14.2.2.2.1 217 (-1) (by decide) (by decide) (by decide) (Or.inl (by decide))).trans (rfl))))))) (by omega) (by omega) (v := ky) ((w_up_slot (by decide)).trans ((w_up_slot (by decide)).trans ((w_up_slot (by decide)).trans ((w_up_slot (by decide)).trans (((tr14.2.2.2.1 217 (h - 1) (by decide) (by decide) (by decide) (Or.inl (by decide))).trans (hky))))))) (fun r31 => ?_)
                      refine wb_pfi 158 rfl (wy_pr rfl) wt_158 wf_5_16 (n := 16) rfl ⟨(by omega), (by omega)⟩ ?_
                      refine wa_aload_n (n := 0) rfl ?_
                      refine wa_aload_n (n := 0) rfl ?_
                      refine wb_gf5 158 rfl (wy_pr rfl) wt_158 wf_5_5 (v := 216) ((w_up_at (by decide)).trans ((w_up_slot (by decide)).trans ((w_up_slot (by decide)).trans ((w_up_at (by decide)).trans ((w_up_at (by decide)).trans (((tr14.2.2.2.1 158 5 (by decide) (by decide) (by decide) (Or.inl (by decide))).trans (l5)))))))) (fun r32 => ?_)
                      refine wb_gf4 216 rfl (wy_pr rfl) wt_216 wf_7_1 (v := 218) wl_216_1 ?_
                      refine wa_aload_n (n := 0) rfl ?_
                      refine wb_gf5 158 rfl (wy_pr rfl) wt_158 wf_5_5 (v := 216) ((w_up_at (by decide)).trans ((w_up_slot (by decide)).trans ((w_up_slot (by decide)).trans ((w_up_at (by decide)).trans ((w_up_at (by decide)).trans (((tr14.2.2.2.1 158 5 (by decide) (by decide) (by decide) (Or.inl (by decide))).trans (l5)))))))) (fun r33 => ?_)
                      refine wb_gfi 216 rfl (wy_pr rfl) wt_216 wf_7_2 (v := h) ((w_up_slot (by decide)).trans ((w_up_slot (by decide)).trans ((w_up_slot (by decide)).trans ((w_up_slot (by decide)).trans ((w_up_slot (by decide)).trans (((tr14.2.2.2.1 216 2 (by decide) (by decide) (by decide) (Or.inl (by decide))).trans (bh)))))))) (fun r34 => ?_)
                      refine wa_iconst ?_
                      refine wa_isub ?_
                      refine wb_lald 218 rfl (wy_pr rfl) wt_218 (n := (S 217 (-1))) ((w_up_slot (by decide)).trans ((w_up_slot (by decide)).trans ((w_up_slot (by decide)).trans ((w_up_slot (by decide)).trans ((w_up_slot (by decide)).trans (((tr14.2.2.2.1 218 (-1) (by decide) (by decide) (by decide) (Or.inl (by decide))).trans (bl1)))))))) (by omega) (by omega) (v := vy) ((w_up_slot (by decide)).trans ((w_up_slot (by decide)).trans ((w_up_slot (by decide)).trans ((w_up_slot (by decide)).trans ((w_up_slot (by decide)).trans (((tr14.2.2.2.1 218 (h - 1) (by decide) (by decide) (by decide) (Or.inl (by decide))).trans (hvy)))))))) (fun r35 => ?_)
                      refine wb_pfl 158 rfl (wy_pr rfl) wt_158 wf_5_17 (n := 17) rfl ⟨(by omega), (by omega)⟩ ?_
                      refine wa_fall ⟨_, rfl⟩ ?_
                      refine wa_aload_n (n := 0) rfl ?_
                      refine wa_aload_n (n := 0) rfl ?_
                      refine wb_gfi 158 rfl (wy_pr rfl) wt_158 wf_5_16 (v := ky) ((w_up_at (by decide)).trans (w_up_same _ _ _ _)) (fun r36 => ?_)
                      refine wa_aload_n (n := 0) rfl ?_
                      refine wb_gfl 158 rfl (wy_pr rfl) wt_158 wf_5_17 (v := vy) (w_up_same _ _ _ _) (fun r37 => ?_)
                      refine wa_cv 158 rfl (wy_pr rfl) wt_158 (M2 := mS [217, 218]) rfl at_XL_giveValue ⟨_, rfl⟩ rfl rfl ⟨trivial, trivial, trivial, (Or.inr ⟨wy_pr rfl, mS_no rfl⟩), (Or.inr ⟨wy_pr rfl, mS_no rfl⟩), trivial, trivial⟩ trivial (fun _ _ q => mS_sub (by decide) q) (glx_215 (S := (w_up (w_up (w_up (w_up (w_up (w_up Sq14 158 16 0) 158 17 0) 141 (st + fi) k1) 142 (st + fi) v1) 158 16 ky) 158 17 vy)) (k := ky) (v := vy) (h := h) (c := c) (p := p) (ba := ba) (w_CL_up (w_CL_up (w_CL_up (w_CL_up (w_CL_up (w_CL_up (CL_tr hC tr14) (by omega)) (by omega)) (by omega)) (by omega)) (by omega)) (by omega)) (gI_up (gI_up (gI_up (gI_up (gI_up (gI_up tr14.2.2.2.2.2.1 (by omega) (by omega) (by omega)) (by omega) (by omega) (by omega)) (by omega) (by omega) (by omega)) (by omega) (by omega) (by omega)) (by omega) (by omega) (by omega)) (by omega) (by omega) (by omega)) ((w_up_at (by decide)).trans ((w_up_at (by decide)).trans ((w_up_slot (by decide)).trans ((w_up_slot (by decide)).trans ((w_up_at (by decide)).trans ((w_up_at (by decide)).trans (((tr14.2.2.2.1 158 4 (by decide) (by decide) (by decide) (Or.inl (by decide))).trans (l4))))))))) ((w_up_at (by decide)).trans ((w_up_at (by decide)).trans ((w_up_slot (by decide)).trans ((w_up_slot (by decide)).trans ((w_up_at (by decide)).trans ((w_up_at (by decide)).trans (((tr14.2.2.2.1 158 5 (by decide) (by decide) (by decide) (Or.inl (by decide))).trans (l5))))))))) ((w_up_at (by decide)).trans ((w_up_at (by decide)).trans ((w_up_slot (by decide)).trans ((w_up_slot (by decide)).trans ((w_up_at (by decide)).trans ((w_up_at (by decide)).trans (((tr14.2.2.2.1 158 8 (by decide) (by decide) (by decide) (Or.inl (by decide))).trans (l8))))))))) ((w_up_slot (by decide)).trans ((w_up_slot (by decide)).trans ((w_up_slot (by decide)).trans ((w_up_slot (by decide)).trans ((w_up_slot (by decide)).trans ((w_up_slot (by decide)).trans (((tr14.2.2.2.1 215 4 (by decide) (by decide) (by decide) (Or.inl (by decide))).trans (bc))))))))) ((w_up_slot (by decide)).trans ((w_up_slot (by decide)).trans ((w_up_slot (by decide)).trans ((w_up_slot (by decide)).trans ((w_up_slot (by decide)).trans ((w_up_slot (by decide)).trans (((tr14.2.2.2.1 220 (c - 1) (by decide) (by decide) (by decide) (Or.inl (by decide))).trans (bp))))))))) ((((w_up_slot (by decide)).trans ((w_up_slot (by decide)).trans ((w_up_slot (by decide)).trans ((w_up_slot (by decide)).trans ((w_up_slot (by decide)).trans ((w_up_slot (by decide)).trans (((tr14.2.2.2.1 218 (-1) (by decide) (by decide) (by decide) (Or.inl (by decide))).trans (bl1)))))))))).trans (((w_up_slot (by decide)).trans ((w_up_slot (by decide)).trans ((w_up_slot (by decide)).trans ((w_up_slot (by decide)).trans ((w_up_slot (by decide)).trans ((w_up_slot (by decide)).trans (((tr14.2.2.2.1 217 (-1) (by decide) (by decide) (by decide) (Or.inl (by decide))).trans (rfl)))))))))).symm) (by have e : (w_up (w_up (w_up (w_up (w_up (w_up Sq14 158 16 0) 158 17 0) 141 (st + fi) k1) 142 (st + fi) v1) 158 16 ky) 158 17 vy) 217 (-1) = S 217 (-1) := ((w_up_slot (by decide)).trans ((w_up_slot (by decide)).trans ((w_up_slot (by decide)).trans ((w_up_slot (by decide)).trans ((w_up_slot (by decide)).trans ((w_up_slot (by decide)).trans (((tr14.2.2.2.1 217 (-1) (by decide) (by decide) (by decide) (Or.inl (by decide))).trans (rfl))))))))); rw [e]; exact ⟨bl2, bl3⟩) (by have e : (w_up (w_up (w_up (w_up (w_up (w_up Sq14 158 16 0) 158 17 0) 141 (st + fi) k1) 142 (st + fi) v1) 158 16 ky) 158 17 vy) 217 (-1) = S 217 (-1) := ((w_up_slot (by decide)).trans ((w_up_slot (by decide)).trans ((w_up_slot (by decide)).trans ((w_up_slot (by decide)).trans ((w_up_slot (by decide)).trans ((w_up_slot (by decide)).trans (((tr14.2.2.2.1 217 (-1) (by decide) (by decide) (by decide) (Or.inl (by decide))).trans (rfl))))))))); omega) ⟨by omega, by omega⟩ ⟨by omega, by omega⟩ ⟨by omega, by omega⟩ ⟨by omega, by omega⟩) (fun oq38 Sq38 hp39 q38 => ?_)
                      rcases q38 with ⟨rfl, hgv38⟩
                      show wJ _ _ _ _ _ _ _ _ _ _
                      refine wa_return rfl ?_
                      refine ⟨rfl, Or.inr ⟨by omega, Sq14, (w_up (w_up (w_up (w_up (w_up (w_up Sq14 158 16 0) 158 17 0) 141 (st + fi) k1) 142 (st + fi) v1) 158 16 ky) 158 17 vy), tr14, ?_, ?_⟩⟩
                      · exact fun j i hji => (w_up_no (by omega)).trans ((w_up_no (by omega)).trans (w_up_cg2 (w_up_cg2 ((w_up_no (by omega)).trans (w_up_no (by omega))))))
                      · first | (rw [if_pos (show kd = 1 by omega), if_pos (show kd = 1 by omega)]; exact hgv38) | (rw [if_neg (show ¬ kd = 1 by omega), if_neg (show ¬ kd = 1 by omega)]; exact hgv38)
                · skip
                  exact absurd c16 (by omega)
              · skip
                exact absurd c12 (by omega)
            · skip
              exact absurd c11 (by omega)
        · skip
          exact absurd c7 (by omega)
      · skip
        refine wa_aload_n (n := 2) rfl ?_
        refine wb_gf4 73 rfl (wy_pr rfl) wt_73 wf_3_3 (v := 96) wl_73_3 ?_
        refine wa_bipush (w_rg2 (by omega) (by omega)) ?_
        refine wb_aald5 96 15 rfl rfl (wy_pr rfl) wt_96 (by rw [show _ = _ from ((cl_96 hC))]; omega) wl_96_15 ?_
        refine wa_iload_n (n := 1) rfl ?_
        refine wb_iald 112 rfl (wy_pr rfl) wt_112 (n := 400) ((cl_112 hC)) (by omega) (by omega) (v := fl) (hmf) (fun r40 => ?_)
        refine wa_iconst ?_
        refine wa_icmpne (w_rg0 (by omega) (by omega)) (w_rg0 (by omega) (by omega)) ⟨_, rfl⟩ (fun c41 => ?_) (fun c41 => ?_)
        · skip
          refine wa_iconst ?_
          refine wa_fall ⟨_, rfl⟩ ?_
          refine wa_istore (n := 4) rfl ?_
          refine wa_iload_n (n := 3) rfl ?_
          refine wa_ifeq (w_rg0 (by omega) (by omega)) ⟨_, rfl⟩ (fun c42 => ?_) (fun c42 => ?_)
          · skip
            refine wa_iconst ?_
            refine wa_fall ⟨_, rfl⟩ ?_
            refine wa_istore (n := 5) rfl ?_
            refine wa_aload_n (n := 0) rfl ?_
            refine wb_gf4 158 rfl (wy_pr rfl) wt_158 wf_5_0 (v := 72) wl_158_0 ?_
            refine wb_gfi 72 rfl (wy_pr rfl) wt_72 wf_2_15 (v := tn) (ht15) (fun r43 => ?_)
            refine wa_iconst ?_
            refine wa_iadd ?_
            refine wb_ki (n := 100000) rfl ?_
            refine wa_icmpgt (w_rg0 (by omega) (by omega)) (w_rg0 (by omega) (by omega)) ⟨_, rfl⟩ (fun c44 => ?_) (fun c44 => ?_)
            · skip
              refine wa_aload_n (n := 0) rfl ?_
              refine wb_gf5 158 rfl (wy_pr rfl) wt_158 wf_5_4 (v := 215) (l4) (fun r45 => ?_)
              refine wa_bipush (w_rg2 (by omega) (by omega)) ?_
              refine wb_pfi 215 rfl (wy_pr rfl) wt_215 wf_8_16 (n := 16) rfl ⟨(by omega), (by omega)⟩ ?_
              refine wa_return rfl ?_
              exact ⟨rfl, Or.inl ⟨by omega, rfl⟩⟩
            · skip
              refine wa_iload_n (n := 3) rfl ?_
              refine wa_ifeq (w_rg0 (by omega) (by omega)) ⟨_, rfl⟩ (fun c46 => ?_) (fun c46 => ?_)
              · skip
                refine wa_iload (n := 4) rfl ?_
                refine wa_ifeq (w_rg0 (by omega) (by omega)) ⟨_, rfl⟩ (fun c47 => ?_) (fun c47 => ?_)
                · skip
                  refine wa_aload_n (n := 0) rfl ?_
                  refine wb_gf4 158 rfl (wy_pr rfl) wt_158 wf_5_0 (v := 72) wl_158_0 ?_
                  refine wa_iload_n (n := 1) rfl ?_
                  refine wa_aload_n (n := 0) rfl ?_
                  refine wb_gfi 158 rfl (wy_pr rfl) wt_158 wf_5_12 (v := en) (l12) (fun r48 => ?_)
                  refine wa_cv 72 rfl (wy_pr rfl) wt_72 (M2 := mS [152]) rfl at_XH_addTrace ⟨_, rfl⟩ rfl rfl ⟨trivial, trivial, trivial, (Or.inr ⟨wy_pr rfl, mS_no rfl⟩), (Or.inr ⟨wy_pr rfl, mS_no rfl⟩), trivial, trivial⟩ trivial (fun _ _ q => mS_sub (by decide) q) (tra (S := S) (m := m) (k := en) hI ⟨by omega, by omega⟩ ⟨by omega, by omega⟩ (by rw [ht15]; exact ht0) (by rw [ht15]; exact ht9)) (fun oq49 Sq49 hp50 q49 => ?_)
                  rcases q49 with ⟨rfl, tr49⟩
                  show wJ _ _ _ _ _ _ _ _ _ _
                  refine wa_aload_n (n := 0) rfl ?_
                  refine wa_iconst ?_
                  refine wb_pfi 158 rfl (wy_pr rfl) wt_158 wf_5_16 (n := 16) rfl ⟨(by omega), (by omega)⟩ ?_
                  refine wa_aload_n (n := 0) rfl ?_
                  refine wb_lconst (m := 0) rfl ?_
                  refine wb_pfl 158 rfl (wy_pr rfl) wt_158 wf_5_17 (n := 17) rfl ⟨(by omega), (by omega)⟩ ?_
                  refine wa_iload_n (n := 3) rfl ?_
                  refine wa_ifeq (w_rg0 (by omega) (by omega)) ⟨_, rfl⟩ (fun c51 => ?_) (fun c51 => ?_)
                  · skip
                    refine wa_aload_n (n := 2) rfl ?_
                    refine wb_gf4 73 rfl (wy_pr rfl) wt_73 wf_3_3 (v := 96) wl_73_3 ?_
                    refine wa_bipush (w_rg2 (by omega) (by omega)) ?_
                    refine wb_aald5 96 15 rfl rfl (wy_pr rfl) wt_96 (by rw [show _ = _ from ((w_up_slot (by decide)).trans ((w_up_slot (by decide)).trans (((tr49.2.2.2.1 96 (-1) (by decide) (by decide) (by decide) (Or.inl (by decide))).trans ((cl_96 hC))))))]; omega) wl_96_15 ?_
                    refine wa_iload_n (n := 1) rfl ?_
                    refine wb_iald 112 rfl (wy_pr rfl) wt_112 (n := 400) ((w_up_slot (by decide)).trans ((w_up_slot (by decide)).trans (((tr49.2.2.2.1 112 (-1) (by decide) (by decide) (by decide) (Or.inl (by decide))).trans ((cl_112 hC)))))) (by omega) (by omega) (v := fl) ((w_up_slot (by decide)).trans ((w_up_slot (by decide)).trans (((tr49.2.2.2.1 112 m (by decide) (by decide) (by decide) (Or.inl (by decide))).trans (hmf))))) (fun r52 => ?_)
                    refine wa_iconst ?_
                    refine wa_icmpeq (w_rg0 (by omega) (by omega)) (w_rg0 (by omega) (by omega)) ⟨_, rfl⟩ (fun c53 => ?_) (fun c53 => ?_)
                    · skip
                      exact absurd c53 (by omega)
                    · skip
                      refine wa_aload_n (n := 0) rfl ?_
                      refine wa_iload_n (n := 1) rfl ?_
                      refine wa_aload_n (n := 2) rfl ?_
                      refine wb_gf4 73 rfl (wy_pr rfl) wt_73 wf_3_3 (v := 96) wl_73_3 ?_
                      refine wa_bipush (w_rg2 (by omega) (by omega)) ?_
                      refine wb_aald5 96 15 rfl rfl (wy_pr rfl) wt_96 (by rw [show _ = _ from ((w_up_slot (by decide)).trans ((w_up_slot (by decide)).trans (((tr49.2.2.2.1 96 (-1) (by decide) (by decide) (by decide) (Or.inl (by decide))).trans ((cl_96 hC))))))]; omega) wl_96_15 ?_
                      refine wa_iload_n (n := 1) rfl ?_
                      refine wb_iald 112 rfl (wy_pr rfl) wt_112 (n := 400) ((w_up_slot (by decide)).trans ((w_up_slot (by decide)).trans (((tr49.2.2.2.1 112 (-1) (by decide) (by decide) (by decide) (Or.inl (by decide))).trans ((cl_112 hC)))))) (by omega) (by omega) (v := fl) ((w_up_slot (by decide)).trans ((w_up_slot (by decide)).trans (((tr49.2.2.2.1 112 m (by decide) (by decide) (by decide) (Or.inl (by decide))).trans (hmf))))) (fun r54 => ?_)
                      have hf2 : ∀ (j : Nat) (i : Int), j < 4000000 → j ≠ wG → j ≠ 152 → j ≠ 72 → j ≠ 158 → (w_up (w_up Sq49 158 16 0) 158 17 0) j i = S j i := fun j i a b c d e => (w_up_no (fun z => e z.1)).trans ((w_up_no (fun z => e z.1)).trans (tr49.2.2.2.1 j i a b c (Or.inl d)))
                      have el : (w_up (w_up Sq49 158 16 0) 158 17 0) 141 (-1) = S 141 (-1) := (hf2 141 _ (by first | decide | omega) (by first | decide | omega) (by first | decide | omega) (by first | decide | omega) (by first | decide | omega))
                      have el2 : (w_up (w_up Sq49 158 16 0) 158 17 0) 142 (-1) = S 142 (-1) := (hf2 142 _ (by first | decide | omega) (by first | decide | omega) (by first | decide | omega) (by first | decide | omega) (by first | decide | omega))
                      have el3 : (w_up (w_up Sq49 158 16 0) 158 17 0) 127 (-1) = S 127 (-1) := (hf2 127 _ (by first | decide | omega) (by first | decide | omega) (by first | decide | omega) (by first | decide | omega) (by first | decide | omega))
                      have el8 : (w_up (w_up Sq49 158 16 0) 158 17 0) 217 (-1) = S 217 (-1) := (hf2 217 _ (by first | decide | omega) (by first | decide | omega) (by first | decide | omega) (by first | decide | omega) (by first | decide | omega))
                      have el9 : (w_up (w_up Sq49 158 16 0) 158 17 0) 218 (-1) = S 218 (-1) := (hf2 218 _ (by first | decide | omega) (by first | decide | omega) (by first | decide | omega) (by first | decide | omega) (by first | decide | omega))
                      refine wa_cv 158 rfl (wy_pr rfl) wt_158 (M2 := fun _ => False) rfl at_XL_useField ⟨_, rfl⟩ rfl rfl ⟨trivial, trivial, trivial, (Or.inr ⟨wy_pr rfl, fun q => q⟩), (Or.inr ⟨wy_pr rfl, fun q => q⟩), trivial, trivial⟩ trivial (fun _ _ q => False.elim q) (uss0_73_215 (S := (w_up (w_up Sq49 158 16 0) 158 17 0)) (m := m) (f := fl) (w_CL_up (w_CL_up (CL_tr hC tr49) (by omega)) (by omega)) ((w_up_slot (by decide)).trans ((w_up_slot (by decide)).trans (((tr49.2.2.2.1 72 1 (by decide) (by decide) (by decide) (Or.inr (by decide))).trans (h72))))) ((w_up_at (by decide)).trans ((w_up_at (by decide)).trans (((tr49.2.2.2.1 158 5 (by decide) (by decide) (by decide) (Or.inl (by decide))).trans (l5))))) ((w_up_at (by decide)).trans ((w_up_at (by decide)).trans (((tr49.2.2.2.1 158 8 (by decide) (by decide) (by decide) (Or.inl (by decide))).trans (l8))))) (((w_up_at (by decide)).trans ((w_up_at (by decide)).trans ((tr49.2.2.2.1 158 10 (by decide) (by decide) (by decide) (Or.inl (by decide)))))).trans l10) hm hfl ((hf2 99 _ (by decide) (by decide) (by decide) (by decide) (by decide)).trans hstt) ((hf2 112 _ (by decide) (by decide) (by decide) (by decide) (by decide)).trans hfi) (fun x hx => by rw [hf2 (127 + x) (-1) (by omega) (by unfold wG; omega) (by omega) (by omega) (by omega), el3]; exact hth x hx) (by rw [el3]; exact hn2) (by rw [el, el2]; exact hl14) (by rw [el]; exact hz14) (by rw [el3]; exact hgb) ((hf2 133 _ (by decide) (by decide) (by decide) (by decide) (by decide)).trans hst) (by rw [el]; exact hrb) ((hf2 101 _ (by decide) (by decide) (by decide) (by decide) (by decide)).trans hmc) (by rw [el8, el9]; exact bl1) (by rw [el8]; exact ⟨by omega, by omega, bl3⟩) ((hf2 217 _ (by decide) (by decide) (by decide) (by decide) (by decide)).trans hk1) ((hf2 218 _ (by decide) (by decide) (by decide) (by decide) (by decide)).trans hv1)) (fun oq55 Sq55 hp56 q55 => ?_)
                      rcases q55 with ⟨rfl, rfl⟩
                      show wJ _ _ _ _ _ _ _ _ _ _
                      refine wa_goto ⟨_, rfl⟩ ?_
                      refine wa_aload_n (n := 0) rfl ?_
                      refine wb_gfi 158 rfl (wy_pr rfl) wt_158 wf_5_7 (v := kd) ((w_up_slot (by decide)).trans ((w_up_slot (by decide)).trans ((w_up_at (by decide)).trans ((w_up_at (by decide)).trans (((tr49.2.2.2.1 158 7 (by decide) (by decide) (by decide) (Or.inl (by decide))).trans (l7))))))) (fun r57 => ?_)
                      refine wa_iconst ?_
                      refine wa_icmpne (w_rg0 (by omega) (by omega)) (w_rg0 (by omega) (by omega)) ⟨_, rfl⟩ (fun c58 => ?_) (fun c58 => ?_)
                      · skip
                        refine wa_aload_n (n := 0) rfl ?_
                        refine wa_aload_n (n := 0) rfl ?_
                        refine wb_gfi 158 rfl (wy_pr rfl) wt_158 wf_5_16 (v := 0) ((w_up_slot (by decide)).trans ((w_up_slot (by decide)).trans ((w_up_at (by decide)).trans (w_up_same _ _ _ _)))) (fun r59 => ?_)
                        refine wa_aload_n (n := 0) rfl ?_
                        refine wb_gfl 158 rfl (wy_pr rfl) wt_158 wf_5_17 (v := 0) ((w_up_slot (by decide)).trans ((w_up_slot (by decide)).trans (w_up_same _ _ _ _))) (fun r60 => ?_)
                        refine wa_cv 158 rfl (wy_pr rfl) wt_158 (M2 := mS [217, 218]) rfl at_XL_giveValue ⟨_, rfl⟩ rfl rfl ⟨trivial, trivial, trivial, (Or.inr ⟨wy_pr rfl, mS_no rfl⟩), (Or.inr ⟨wy_pr rfl, mS_no rfl⟩), trivial, trivial⟩ trivial (fun _ _ q => mS_sub (by decide) q) (glx_215 (S := (w_up (w_up (w_up (w_up Sq49 158 16 0) 158 17 0) 141 (st + fi) k1) 142 (st + fi) v1)) (k := 0) (v := 0) (h := h) (c := c) (p := p) (ba := ba) (w_CL_up (w_CL_up (w_CL_up (w_CL_up (CL_tr hC tr49) (by omega)) (by omega)) (by omega)) (by omega)) (gI_up (gI_up (gI_up (gI_up tr49.2.2.2.2.2.1 (by omega) (by omega) (by omega)) (by omega) (by omega) (by omega)) (by omega) (by omega) (by omega)) (by omega) (by omega) (by omega)) ((w_up_slot (by decide)).trans ((w_up_slot (by decide)).trans ((w_up_at (by decide)).trans ((w_up_at (by decide)).trans (((tr49.2.2.2.1 158 4 (by decide) (by decide) (by decide) (Or.inl (by decide))).trans (l4))))))) ((w_up_slot (by decide)).trans ((w_up_slot (by decide)).trans ((w_up_at (by decide)).trans ((w_up_at (by decide)).trans (((tr49.2.2.2.1 158 5 (by decide) (by decide) (by decide) (Or.inl (by decide))).trans (l5))))))) ((w_up_slot (by decide)).trans ((w_up_slot (by decide)).trans ((w_up_at (by decide)).trans ((w_up_at (by decide)).trans (((tr49.2.2.2.1 158 8 (by decide) (by decide) (by decide) (Or.inl (by decide))).trans (l8))))))) ((w_up_slot (by decide)).trans ((w_up_slot (by decide)).trans ((w_up_slot (by decide)).trans ((w_up_slot (by decide)).trans (((tr49.2.2.2.1 215 4 (by decide) (by decide) (by decide) (Or.inl (by decide))).trans (bc))))))) ((w_up_slot (by decide)).trans ((w_up_slot (by decide)).trans ((w_up_slot (by decide)).trans ((w_up_slot (by decide)).trans (((tr49.2.2.2.1 220 (c - 1) (by decide) (by decide) (by decide) (Or.inl (by decide))).trans (bp))))))) ((((w_up_slot (by decide)).trans ((w_up_slot (by decide)).trans ((w_up_slot (by decide)).trans ((w_up_slot (by decide)).trans (((tr49.2.2.2.1 218 (-1) (by decide) (by decide) (by decide) (Or.inl (by decide))).trans (bl1)))))))).trans (((w_up_slot (by decide)).trans ((w_up_slot (by decide)).trans ((w_up_slot (by decide)).trans ((w_up_slot (by decide)).trans (((tr49.2.2.2.1 217 (-1) (by decide) (by decide) (by decide) (Or.inl (by decide))).trans (rfl)))))))).symm) (by have e : (w_up (w_up (w_up (w_up Sq49 158 16 0) 158 17 0) 141 (st + fi) k1) 142 (st + fi) v1) 217 (-1) = S 217 (-1) := ((w_up_slot (by decide)).trans ((w_up_slot (by decide)).trans ((w_up_slot (by decide)).trans ((w_up_slot (by decide)).trans (((tr49.2.2.2.1 217 (-1) (by decide) (by decide) (by decide) (Or.inl (by decide))).trans (rfl))))))); rw [e]; exact ⟨bl2, bl3⟩) (by have e : (w_up (w_up (w_up (w_up Sq49 158 16 0) 158 17 0) 141 (st + fi) k1) 142 (st + fi) v1) 217 (-1) = S 217 (-1) := ((w_up_slot (by decide)).trans ((w_up_slot (by decide)).trans ((w_up_slot (by decide)).trans ((w_up_slot (by decide)).trans (((tr49.2.2.2.1 217 (-1) (by decide) (by decide) (by decide) (Or.inl (by decide))).trans (rfl))))))); omega) ⟨by omega, by omega⟩ ⟨by omega, by omega⟩ ⟨by omega, by omega⟩ ⟨by omega, by omega⟩) (fun oq61 Sq61 hp62 q61 => ?_)
                        rcases q61 with ⟨rfl, hgv61⟩
                        show wJ _ _ _ _ _ _ _ _ _ _
                        refine wa_return rfl ?_
                        refine ⟨rfl, Or.inr ⟨by omega, Sq49, (w_up (w_up (w_up (w_up Sq49 158 16 0) 158 17 0) 141 (st + fi) k1) 142 (st + fi) v1), tr49, ?_, ?_⟩⟩
                        · exact fun j i hji => w_up_cg2 (w_up_cg2 ((w_up_no (by omega)).trans (w_up_no (by omega))))
                        · first | (rw [if_pos (show kd = 1 by omega), if_pos (show kd = 1 by omega)]; exact hgv61) | (rw [if_neg (show ¬ kd = 1 by omega), if_neg (show ¬ kd = 1 by omega)]; exact hgv61)
                      · skip
                        refine wa_aload_n (n := 0) rfl ?_
                        refine wa_aload_n (n := 0) rfl ?_
                        refine wb_gf5 158 rfl (wy_pr rfl) wt_158 wf_5_5 (v := 216) ((w_up_slot (by decide)).trans ((w_up_slot (by decide)).trans ((w_up_at (by decide)).trans ((w_up_at (by decide)).trans (((tr49.2.2.2.1 158 5 (by decide) (by decide) (by decide) (Or.inl (by decide))).trans (l5))))))) (fun r63 => ?_)
                        refine wb_gf4 216 rfl (wy_pr rfl) wt_216 wf_7_0 (v := 217) wl_216_0 ?_
                        refine wa_aload_n (n := 0) rfl ?_
                        refine wb_gf5 158 rfl (wy_pr rfl) wt_158 wf_5_5 (v := 216) ((w_up_slot (by decide)).trans ((w_up_slot (by decide)).trans ((w_up_at (by decide)).trans ((w_up_at (by decide)).trans (((tr49.2.2.2.1 158 5 (by decide) (by decide) (by decide) (Or.inl (by decide))).trans (l5))))))) (fun r64 => ?_)
                        refine wb_gfi 216 rfl (wy_pr rfl) wt_216 wf_7_2 (v := h) ((w_up_slot (by decide)).trans ((w_up_slot (by decide)).trans ((w_up_slot (by decide)).trans ((w_up_slot (by decide)).trans (((tr49.2.2.2.1 216 2 (by decide) (by decide) (by decide) (Or.inl (by decide))).trans (bh))))))) (fun r65 => ?_)
                        refine wa_iconst ?_
                        refine wa_isub ?_
                        refine wb_bald 217 rfl (wy_pr rfl) wt_217 (n := (S 217 (-1))) ((w_up_slot (by decide)).trans ((w_up_slot (by decide)).trans ((w_up_slot (by decide)).trans ((w_up_slot (by decide)).trans (((tr49.2.2.2.1 217 (-1) (by decide) (by decide) (by decide) (Or.inl (by decide))).trans (rfl))))))) (by omega) (by omega) (v := ky) ((w_up_slot (by decide)).trans ((w_up_slot (by decide)).trans ((w_up_slot (by decide)).trans ((w_up_slot (by decide)).trans (((tr49.2.2.2.1 217 (h - 1) (by decide) (by decide) (by decide) (Or.inl (by decide))).trans (hky))))))) (fun r66 => ?_)
                        refine wb_pfi 158 rfl (wy_pr rfl) wt_158 wf_5_16 (n := 16) rfl ⟨(by omega), (by omega)⟩ ?_
                        refine wa_aload_n (n := 0) rfl ?_
                        refine wa_aload_n (n := 0) rfl ?_
                        refine wb_gf5 158 rfl (wy_pr rfl) wt_158 wf_5_5 (v := 216) ((w_up_at (by decide)).trans ((w_up_slot (by decide)).trans ((w_up_slot (by decide)).trans ((w_up_at (by decide)).trans ((w_up_at (by decide)).trans (((tr49.2.2.2.1 158 5 (by decide) (by decide) (by decide) (Or.inl (by decide))).trans (l5)))))))) (fun r67 => ?_)
                        refine wb_gf4 216 rfl (wy_pr rfl) wt_216 wf_7_1 (v := 218) wl_216_1 ?_
                        refine wa_aload_n (n := 0) rfl ?_
                        refine wb_gf5 158 rfl (wy_pr rfl) wt_158 wf_5_5 (v := 216) ((w_up_at (by decide)).trans ((w_up_slot (by decide)).trans ((w_up_slot (by decide)).trans ((w_up_at (by decide)).trans ((w_up_at (by decide)).trans (((tr49.2.2.2.1 158 5 (by decide) (by decide) (by decide) (Or.inl (by decide))).trans (l5)))))))) (fun r68 => ?_)
                        refine wb_gfi 216 rfl (wy_pr rfl) wt_216 wf_7_2 (v := h) ((w_up_slot (by decide)).trans ((w_up_slot (by decide)).trans ((w_up_slot (by decide)).trans ((w_up_slot (by decide)).trans ((w_up_slot (by decide)).trans (((tr49.2.2.2.1 216 2 (by decide) (by decide) (by decide) (Or.inl (by decide))).trans (bh)))))))) (fun r69 => ?_)
                        refine wa_iconst ?_
                        refine wa_isub ?_
                        refine wb_lald 218 rfl (wy_pr rfl) wt_218 (n := (S 217 (-1))) ((w_up_slot (by decide)).trans ((w_up_slot (by decide)).trans ((w_up_slot (by decide)).trans ((w_up_slot (by decide)).trans ((w_up_slot (by decide)).trans (((tr49.2.2.2.1 218 (-1) (by decide) (by decide) (by decide) (Or.inl (by decide))).trans (bl1)))))))) (by omega) (by omega) (v := vy) ((w_up_slot (by decide)).trans ((w_up_slot (by decide)).trans ((w_up_slot (by decide)).trans ((w_up_slot (by decide)).trans ((w_up_slot (by decide)).trans (((tr49.2.2.2.1 218 (h - 1) (by decide) (by decide) (by decide) (Or.inl (by decide))).trans (hvy)))))))) (fun r70 => ?_)
                        refine wb_pfl 158 rfl (wy_pr rfl) wt_158 wf_5_17 (n := 17) rfl ⟨(by omega), (by omega)⟩ ?_
                        refine wa_fall ⟨_, rfl⟩ ?_
                        refine wa_aload_n (n := 0) rfl ?_
                        refine wa_aload_n (n := 0) rfl ?_
                        refine wb_gfi 158 rfl (wy_pr rfl) wt_158 wf_5_16 (v := ky) ((w_up_at (by decide)).trans (w_up_same _ _ _ _)) (fun r71 => ?_)
                        refine wa_aload_n (n := 0) rfl ?_
                        refine wb_gfl 158 rfl (wy_pr rfl) wt_158 wf_5_17 (v := vy) (w_up_same _ _ _ _) (fun r72 => ?_)
                        refine wa_cv 158 rfl (wy_pr rfl) wt_158 (M2 := mS [217, 218]) rfl at_XL_giveValue ⟨_, rfl⟩ rfl rfl ⟨trivial, trivial, trivial, (Or.inr ⟨wy_pr rfl, mS_no rfl⟩), (Or.inr ⟨wy_pr rfl, mS_no rfl⟩), trivial, trivial⟩ trivial (fun _ _ q => mS_sub (by decide) q) (glx_215 (S := (w_up (w_up (w_up (w_up (w_up (w_up Sq49 158 16 0) 158 17 0) 141 (st + fi) k1) 142 (st + fi) v1) 158 16 ky) 158 17 vy)) (k := ky) (v := vy) (h := h) (c := c) (p := p) (ba := ba) (w_CL_up (w_CL_up (w_CL_up (w_CL_up (w_CL_up (w_CL_up (CL_tr hC tr49) (by omega)) (by omega)) (by omega)) (by omega)) (by omega)) (by omega)) (gI_up (gI_up (gI_up (gI_up (gI_up (gI_up tr49.2.2.2.2.2.1 (by omega) (by omega) (by omega)) (by omega) (by omega) (by omega)) (by omega) (by omega) (by omega)) (by omega) (by omega) (by omega)) (by omega) (by omega) (by omega)) (by omega) (by omega) (by omega)) ((w_up_at (by decide)).trans ((w_up_at (by decide)).trans ((w_up_slot (by decide)).trans ((w_up_slot (by decide)).trans ((w_up_at (by decide)).trans ((w_up_at (by decide)).trans (((tr49.2.2.2.1 158 4 (by decide) (by decide) (by decide) (Or.inl (by decide))).trans (l4))))))))) ((w_up_at (by decide)).trans ((w_up_at (by decide)).trans ((w_up_slot (by decide)).trans ((w_up_slot (by decide)).trans ((w_up_at (by decide)).trans ((w_up_at (by decide)).trans (((tr49.2.2.2.1 158 5 (by decide) (by decide) (by decide) (Or.inl (by decide))).trans (l5))))))))) ((w_up_at (by decide)).trans ((w_up_at (by decide)).trans ((w_up_slot (by decide)).trans ((w_up_slot (by decide)).trans ((w_up_at (by decide)).trans ((w_up_at (by decide)).trans (((tr49.2.2.2.1 158 8 (by decide) (by decide) (by decide) (Or.inl (by decide))).trans (l8))))))))) ((w_up_slot (by decide)).trans ((w_up_slot (by decide)).trans ((w_up_slot (by decide)).trans ((w_up_slot (by decide)).trans ((w_up_slot (by decide)).trans ((w_up_slot (by decide)).trans (((tr49.2.2.2.1 215 4 (by decide) (by decide) (by decide) (Or.inl (by decide))).trans (bc))))))))) ((w_up_slot (by decide)).trans ((w_up_slot (by decide)).trans ((w_up_slot (by decide)).trans ((w_up_slot (by decide)).trans ((w_up_slot (by decide)).trans ((w_up_slot (by decide)).trans (((tr49.2.2.2.1 220 (c - 1) (by decide) (by decide) (by decide) (Or.inl (by decide))).trans (bp))))))))) ((((w_up_slot (by decide)).trans ((w_up_slot (by decide)).trans ((w_up_slot (by decide)).trans ((w_up_slot (by decide)).trans ((w_up_slot (by decide)).trans ((w_up_slot (by decide)).trans (((tr49.2.2.2.1 218 (-1) (by decide) (by decide) (by decide) (Or.inl (by decide))).trans (bl1)))))))))).trans (((w_up_slot (by decide)).trans ((w_up_slot (by decide)).trans ((w_up_slot (by decide)).trans ((w_up_slot (by decide)).trans ((w_up_slot (by decide)).trans ((w_up_slot (by decide)).trans (((tr49.2.2.2.1 217 (-1) (by decide) (by decide) (by decide) (Or.inl (by decide))).trans (rfl)))))))))).symm) (by have e : (w_up (w_up (w_up (w_up (w_up (w_up Sq49 158 16 0) 158 17 0) 141 (st + fi) k1) 142 (st + fi) v1) 158 16 ky) 158 17 vy) 217 (-1) = S 217 (-1) := ((w_up_slot (by decide)).trans ((w_up_slot (by decide)).trans ((w_up_slot (by decide)).trans ((w_up_slot (by decide)).trans ((w_up_slot (by decide)).trans ((w_up_slot (by decide)).trans (((tr49.2.2.2.1 217 (-1) (by decide) (by decide) (by decide) (Or.inl (by decide))).trans (rfl))))))))); rw [e]; exact ⟨bl2, bl3⟩) (by have e : (w_up (w_up (w_up (w_up (w_up (w_up Sq49 158 16 0) 158 17 0) 141 (st + fi) k1) 142 (st + fi) v1) 158 16 ky) 158 17 vy) 217 (-1) = S 217 (-1) := ((w_up_slot (by decide)).trans ((w_up_slot (by decide)).trans ((w_up_slot (by decide)).trans ((w_up_slot (by decide)).trans ((w_up_slot (by decide)).trans ((w_up_slot (by decide)).trans (((tr49.2.2.2.1 217 (-1) (by decide) (by decide) (by decide) (Or.inl (by decide))).trans (rfl))))))))); omega) ⟨by omega, by omega⟩ ⟨by omega, by omega⟩ ⟨by omega, by omega⟩ ⟨by omega, by omega⟩) (fun oq73 Sq73 hp74 q73 => ?_)
                        rcases q73 with ⟨rfl, hgv73⟩
                        show wJ _ _ _ _ _ _ _ _ _ _
                        refine wa_return rfl ?_
                        refine ⟨rfl, Or.inr ⟨by omega, Sq49, (w_up (w_up (w_up (w_up (w_up (w_up Sq49 158 16 0) 158 17 0) 141 (st + fi) k1) 142 (st + fi) v1) 158 16 ky) 158 17 vy), tr49, ?_, ?_⟩⟩
                        · exact fun j i hji => (w_up_no (by omega)).trans ((w_up_no (by omega)).trans (w_up_cg2 (w_up_cg2 ((w_up_no (by omega)).trans (w_up_no (by omega))))))
                        · first | (rw [if_pos (show kd = 1 by omega), if_pos (show kd = 1 by omega)]; exact hgv73) | (rw [if_neg (show ¬ kd = 1 by omega), if_neg (show ¬ kd = 1 by omega)]; exact hgv73)
                  · skip
                    exact absurd c51 (by omega)
                · skip
                  exact absurd c47 (by omega)
              · skip
                exact absurd c46 (by omega)
          · skip
            exact absurd c42 (by omega)
        · skip
          exact absurd c41 (by omega)
  · skip
    exact absurd c3 (by omega)
set_option maxHeartbeats 4000000 in
theorem cmv_73_226 {c p h kd ba m en tn ky vy  : Int} (hP : xP 226 c p h S) (l4 : S 158 4 = 226) (l5 : S 158 5 = 227) (l7 : S 158 7 = kd) (l8 : S 158 8 = ba) (l12 : S 158 12 = en) (hen : 0 ≤ en ∧ en ≤ 1000) (hba : 0 ≤ ba ∧ ba < h) (h72 : S 72 1 = 73) (hm : 0 ≤ m ∧ m < 400) (hso : S 98 m = 1) (ht15 : S 72 15 = tn) (ht0 : 0 ≤ tn ∧ tn ≤ S 152 (-1) ∧ tn ≤ 100000) (ht9 : 16 ≤ S 152 (-1) ∧ S 152 (-1) ≤ 131072 ∨ (16 ≤ S 152 (-1) ∧ S 152 (-1) ≤ 262143 ∧ tn + 2 ≤ S 152 (-1))) (hky : S 228 (h - 1) = ky) (hvy : S 229 (h - 1) = vy) (hkr : -128 ≤ ky ∧ ky ≤ 127) (hvr : -9223372036854775808 ≤ vy ∧ vy ≤ 9223372036854775807) (hmt : S 100 m = 0) (hmf : S 112 m = -1) : wJ (pe_GA xs) wY0 (mS [228, 229, 152]) (d + 6) t_XL_callMember ((pe_at t_XL_callMember.bl 0).getD (0, [])).2 [(0, (2, 158)), (1, (0, m))] [] S (fun o Z => o = .inl none ∧ ((100000 < tn + 2 ∧ w_up S 226 16 99 = Z) ∨ (¬ (100000 < tn + 2) ∧ cmE 226 h c p (h - ba) kd ky vy 0 0 m en gvR S Z))) := by
  obtain ⟨⟨hC, hI⟩, ⟨bc, bc0, bc1⟩, ⟨bp, bp0, bp1⟩, ⟨bh, bh0, bh1, bh2⟩, bl1, bl2, bl3⟩ := hP
  replace bp : S 231 (c - 1) = p := bp
  replace bh : S 227 2 = h := bh
  replace bh2 : h ≤ S 228 (-1) := bh2
  replace bl1 : S 229 (-1) = S 228 (-1) := bl1
  replace bl2 : 64 ≤ S 228 (-1) := bl2
  replace bl3 : S 228 (-1) ≤ 4095 := bl3
  refine wa_aload_n (n := 0) rfl ?_
  refine wb_gf4 158 rfl (wy_pr rfl) wt_158 wf_5_0 (v := 72) wl_158_0 ?_
  refine wb_gf5 72 rfl (wy_pr rfl) wt_72 wf_2_1 (v := 73) (h72) (fun r1 => ?_)
  refine wa_astore_n (n := 2) rfl ?_
  refine wa_aload_n (n := 2) rfl ?_
  refine wb_gf4 73 rfl (wy_pr rfl) wt_73 wf_3_3 (v := 96) wl_73_3 ?_
  refine wa_iconst ?_
  refine wb_aald5 96 1 rfl rfl (wy_pr rfl) wt_96 (by rw [show _ = _ from ((cl_96 hC))]; omega) wl_96_1 ?_
  refine wa_iload_n (n := 1) rfl ?_
  refine wb_iald 98 rfl (wy_pr rfl) wt_98 (n := 400) ((cl_98 hC)) (by omega) (by omega) (v := 1) (hso) (fun r2 => ?_)
  refine wa_iconst ?_
  refine wa_icmpne (w_rg0 (by omega) (by omega)) (w_rg0 (by omega) (by omega)) ⟨_, rfl⟩ (fun c3 => ?_) (fun c3 => ?_)
  · skip
    refine wa_iconst ?_
    refine wa_fall ⟨_, rfl⟩ ?_
    refine wa_istore_n (n := 3) rfl ?_
    refine wa_iload_n (n := 3) rfl ?_
    refine wa_ifne (w_rg0 (by omega) (by omega)) ⟨_, rfl⟩ (fun c4 => ?_) (fun c4 => ?_)
    · skip
      exact absurd c4 (by omega)
    · skip
      refine wa_aload_n (n := 2) rfl ?_
      refine wb_gf4 73 rfl (wy_pr rfl) wt_73 wf_3_3 (v := 96) wl_73_3 ?_
      refine wa_iconst ?_
      refine wb_aald5 96 3 rfl rfl (wy_pr rfl) wt_96 (by rw [show _ = _ from ((cl_96 hC))]; omega) wl_96_3 ?_
      refine wa_iload_n (n := 1) rfl ?_
      refine wb_iald 100 rfl (wy_pr rfl) wt_100 (n := 400) ((cl_100 hC)) (by omega) (by omega) (v := 0) (hmt) (fun r5 => ?_)
      refine wa_bipush (w_rg2 (by omega) (by omega)) ?_
      refine wa_icmpne (w_rg0 (by omega) (by omega)) (w_rg0 (by omega) (by omega)) ⟨_, rfl⟩ (fun c6 => ?_) (fun c6 => ?_)
      · skip
        refine wa_iconst ?_
        refine wa_fall ⟨_, rfl⟩ ?_
        refine wa_istore (n := 4) rfl ?_
        refine wa_iload_n (n := 3) rfl ?_
        refine wa_ifeq (w_rg0 (by omega) (by omega)) ⟨_, rfl⟩ (fun c7 => ?_) (fun c7 => ?_)
        · skip
          refine wa_iconst ?_
          refine wa_fall ⟨_, rfl⟩ ?_
          refine wa_istore (n := 5) rfl ?_
          refine wa_aload_n (n := 0) rfl ?_
          refine wb_gf4 158 rfl (wy_pr rfl) wt_158 wf_5_0 (v := 72) wl_158_0 ?_
          refine wb_gfi 72 rfl (wy_pr rfl) wt_72 wf_2_15 (v := tn) (ht15) (fun r8 => ?_)
          refine wa_iconst ?_
          refine wa_iadd ?_
          refine wb_ki (n := 100000) rfl ?_
          refine wa_icmpgt (w_rg0 (by omega) (by omega)) (w_rg0 (by omega) (by omega)) ⟨_, rfl⟩ (fun c9 => ?_) (fun c9 => ?_)
          · skip
            refine wa_aload_n (n := 0) rfl ?_
            refine wb_gf5 158 rfl (wy_pr rfl) wt_158 wf_5_4 (v := 226) (l4) (fun r10 => ?_)
            refine wa_bipush (w_rg2 (by omega) (by omega)) ?_
            refine wb_pfi 226 rfl (wy_pr rfl) wt_226 wf_8_16 (n := 16) rfl ⟨(by omega), (by omega)⟩ ?_
            refine wa_return rfl ?_
            exact ⟨rfl, Or.inl ⟨by omega, rfl⟩⟩
          · skip
            refine wa_iload_n (n := 3) rfl ?_
            refine wa_ifeq (w_rg0 (by omega) (by omega)) ⟨_, rfl⟩ (fun c11 => ?_) (fun c11 => ?_)
            · skip
              refine wa_iload (n := 4) rfl ?_
              refine wa_ifeq (w_rg0 (by omega) (by omega)) ⟨_, rfl⟩ (fun c12 => ?_) (fun c12 => ?_)
              · skip
                refine wa_aload_n (n := 0) rfl ?_
                refine wb_gf4 158 rfl (wy_pr rfl) wt_158 wf_5_0 (v := 72) wl_158_0 ?_
                refine wa_iload_n (n := 1) rfl ?_
                refine wa_aload_n (n := 0) rfl ?_
                refine wb_gfi 158 rfl (wy_pr rfl) wt_158 wf_5_12 (v := en) (l12) (fun r13 => ?_)
                refine wa_cv 72 rfl (wy_pr rfl) wt_72 (M2 := mS [152]) rfl at_XH_addTrace ⟨_, rfl⟩ rfl rfl ⟨trivial, trivial, trivial, (Or.inr ⟨wy_pr rfl, mS_no rfl⟩), (Or.inr ⟨wy_pr rfl, mS_no rfl⟩), trivial, trivial⟩ trivial (fun _ _ q => mS_sub (by decide) q) (tra (S := S) (m := m) (k := en) hI ⟨by omega, by omega⟩ ⟨by omega, by omega⟩ (by rw [ht15]; exact ht0) (by rw [ht15]; exact ht9)) (fun oq14 Sq14 hp15 q14 => ?_)
                rcases q14 with ⟨rfl, tr14⟩
                show wJ _ _ _ _ _ _ _ _ _ _
                refine wa_aload_n (n := 0) rfl ?_
                refine wa_iconst ?_
                refine wb_pfi 158 rfl (wy_pr rfl) wt_158 wf_5_16 (n := 16) rfl ⟨(by omega), (by omega)⟩ ?_
                refine wa_aload_n (n := 0) rfl ?_
                refine wb_lconst (m := 0) rfl ?_
                refine wb_pfl 158 rfl (wy_pr rfl) wt_158 wf_5_17 (n := 17) rfl ⟨(by omega), (by omega)⟩ ?_
                refine wa_iload_n (n := 3) rfl ?_
                refine wa_ifeq (w_rg0 (by omega) (by omega)) ⟨_, rfl⟩ (fun c16 => ?_) (fun c16 => ?_)
                · skip
                  refine wa_aload_n (n := 2) rfl ?_
                  refine wb_gf4 73 rfl (wy_pr rfl) wt_73 wf_3_3 (v := 96) wl_73_3 ?_
                  refine wa_bipush (w_rg2 (by omega) (by omega)) ?_
                  refine wb_aald5 96 15 rfl rfl (wy_pr rfl) wt_96 (by rw [show _ = _ from ((w_up_slot (by decide)).trans ((w_up_slot (by decide)).trans (((tr14.2.2.2.1 96 (-1) (by decide) (by decide) (by decide) (Or.inl (by decide))).trans ((cl_96 hC))))))]; omega) wl_96_15 ?_
                  refine wa_iload_n (n := 1) rfl ?_
                  refine wb_iald 112 rfl (wy_pr rfl) wt_112 (n := 400) ((w_up_slot (by decide)).trans ((w_up_slot (by decide)).trans (((tr14.2.2.2.1 112 (-1) (by decide) (by decide) (by decide) (Or.inl (by decide))).trans ((cl_112 hC)))))) (by omega) (by omega) (v := (-1)) ((w_up_slot (by decide)).trans ((w_up_slot (by decide)).trans (((tr14.2.2.2.1 112 m (by decide) (by decide) (by decide) (Or.inl (by decide))).trans (hmf))))) (fun r17 => ?_)
                  refine wa_iconst ?_
                  refine wa_icmpeq (w_rg0 (by omega) (by omega)) (w_rg0 (by omega) (by omega)) ⟨_, rfl⟩ (fun c18 => ?_) (fun c18 => ?_)
                  · skip
                    refine wa_aload_n (n := 0) rfl ?_
                    refine wa_iload_n (n := 1) rfl ?_
                    refine wa_cv 158 rfl (wy_pr rfl) wt_158 (M2 := fun _ => False) rfl at_XL_answer ⟨_, rfl⟩ rfl rfl ⟨trivial, trivial, trivial, (Or.inr ⟨wy_pr rfl, fun q => q⟩), (Or.inr ⟨wy_pr rfl, fun q => q⟩), trivial, trivial⟩ trivial (fun _ _ q => False.elim q) (anv_73_215 (S := (w_up (w_up Sq14 158 16 0) 158 17 0)) (m := m) (w_CL_up (w_CL_up (CL_tr hC tr14) (by omega)) (by omega)) ((w_up_slot (by decide)).trans ((w_up_slot (by decide)).trans (((tr14.2.2.2.1 72 1 (by decide) (by decide) (by decide) (Or.inr (by decide))).trans (h72))))) hm ((w_up_slot (by decide)).trans ((w_up_slot (by decide)).trans (((tr14.2.2.2.1 100 m (by decide) (by decide) (by decide) (Or.inl (by decide))).trans (hmt)))))) (fun oq19 Sq19 hp20 q19 => ?_)
                    rcases q19 with ⟨rfl, rfl⟩
                    show wJ _ _ _ _ _ _ _ _ _ _
                    refine wa_fall ⟨_, rfl⟩ ?_
                    refine wa_aload_n (n := 0) rfl ?_
                    refine wb_gfi 158 rfl (wy_pr rfl) wt_158 wf_5_7 (v := kd) ((w_up_at (by decide)).trans ((w_up_at (by decide)).trans (((tr14.2.2.2.1 158 7 (by decide) (by decide) (by decide) (Or.inl (by decide))).trans (l7))))) (fun r21 => ?_)
                    refine wa_iconst ?_
                    refine wa_icmpne (w_rg0 (by omega) (by omega)) (w_rg0 (by omega) (by omega)) ⟨_, rfl⟩ (fun c22 => ?_) (fun c22 => ?_)
                    · skip
                      refine wa_aload_n (n := 0) rfl ?_
                      refine wa_aload_n (n := 0) rfl ?_
                      refine wb_gfi 158 rfl (wy_pr rfl) wt_158 wf_5_16 (v := 0) ((w_up_at (by decide)).trans (w_up_same _ _ _ _)) (fun r23 => ?_)
                      refine wa_aload_n (n := 0) rfl ?_
                      refine wb_gfl 158 rfl (wy_pr rfl) wt_158 wf_5_17 (v := 0) (w_up_same _ _ _ _) (fun r24 => ?_)
                      refine wa_cv 158 rfl (wy_pr rfl) wt_158 (M2 := mS [228, 229]) rfl at_XL_giveValue ⟨_, rfl⟩ rfl rfl ⟨trivial, trivial, trivial, (Or.inr ⟨wy_pr rfl, mS_no rfl⟩), (Or.inr ⟨wy_pr rfl, mS_no rfl⟩), trivial, trivial⟩ trivial (fun _ _ q => mS_sub (by decide) q) (glx_226 (S := (w_up (w_up Sq14 158 16 0) 158 17 0)) (k := 0) (v := 0) (h := h) (c := c) (p := p) (ba := ba) (w_CL_up (w_CL_up (CL_tr hC tr14) (by omega)) (by omega)) (gI_up (gI_up tr14.2.2.2.2.2.1 (by omega) (by omega) (by omega)) (by omega) (by omega) (by omega)) ((w_up_at (by decide)).trans ((w_up_at (by decide)).trans (((tr14.2.2.2.1 158 4 (by decide) (by decide) (by decide) (Or.inl (by decide))).trans (l4))))) ((w_up_at (by decide)).trans ((w_up_at (by decide)).trans (((tr14.2.2.2.1 158 5 (by decide) (by decide) (by decide) (Or.inl (by decide))).trans (l5))))) ((w_up_at (by decide)).trans ((w_up_at (by decide)).trans (((tr14.2.2.2.1 158 8 (by decide) (by decide) (by decide) (Or.inl (by decide))).trans (l8))))) ((w_up_slot (by decide)).trans ((w_up_slot (by decide)).trans (((tr14.2.2.2.1 226 4 (by decide) (by decide) (by decide) (Or.inl (by decide))).trans (bc))))) ((w_up_slot (by decide)).trans ((w_up_slot (by decide)).trans (((tr14.2.2.2.1 231 (c - 1) (by decide) (by decide) (by decide) (Or.inl (by decide))).trans (bp))))) ((((w_up_slot (by decide)).trans ((w_up_slot (by decide)).trans (((tr14.2.2.2.1 229 (-1) (by decide) (by decide) (by decide) (Or.inl (by decide))).trans (bl1)))))).trans (((w_up_slot (by decide)).trans ((w_up_slot (by decide)).trans (((tr14.2.2.2.1 228 (-1) (by decide) (by decide) (by decide) (Or.inl (by decide))).trans (rfl)))))).symm) (by have e : (w_up (w_up Sq14 158 16 0) 158 17 0) 228 (-1) = S 228 (-1) := ((w_up_slot (by decide)).trans ((w_up_slot (by decide)).trans (((tr14.2.2.2.1 228 (-1) (by decide) (by decide) (by decide) (Or.inl (by decide))).trans (rfl))))); rw [e]; exact ⟨bl2, bl3⟩) (by have e : (w_up (w_up Sq14 158 16 0) 158 17 0) 228 (-1) = S 228 (-1) := ((w_up_slot (by decide)).trans ((w_up_slot (by decide)).trans (((tr14.2.2.2.1 228 (-1) (by decide) (by decide) (by decide) (Or.inl (by decide))).trans (rfl))))); omega) ⟨by omega, by omega⟩ ⟨by omega, by omega⟩ ⟨by omega, by omega⟩ ⟨by omega, by omega⟩) (fun oq25 Sq25 hp26 q25 => ?_)
                      rcases q25 with ⟨rfl, hgv25⟩
                      show wJ _ _ _ _ _ _ _ _ _ _
                      refine wa_return rfl ?_
                      refine ⟨rfl, Or.inr ⟨by omega, Sq14, (w_up (w_up Sq14 158 16 0) 158 17 0), tr14, ?_, ?_⟩⟩
                      · exact fun j i hji => (w_up_no (by omega)).trans ((w_up_no (by omega)).trans (rfl))
                      · first | (rw [if_pos (show kd = 1 by omega), if_pos (show kd = 1 by omega)]; exact hgv25) | (rw [if_neg (show ¬ kd = 1 by omega), if_neg (show ¬ kd = 1 by omega)]; exact hgv25)
                    · skip
                      refine wa_aload_n (n := 0) rfl ?_
                      refine wa_aload_n (n := 0) rfl ?_
                      refine wb_gf5 158 rfl (wy_pr rfl) wt_158 wf_5_5 (v := 227) ((w_up_at (by decide)).trans ((w_up_at (by decide)).trans (((tr14.2.2.2.1 158 5 (by decide) (by decide) (by decide) (Or.inl (by decide))).trans (l5))))) (fun r27 => ?_)
                      refine wb_gf4 227 rfl (wy_pr rfl) wt_227 wf_7_0 (v := 228) wl_227_0 ?_
                      refine wa_aload_n (n := 0) rfl ?_
                      refine wb_gf5 158 rfl (wy_pr rfl) wt_158 wf_5_5 (v := 227) ((w_up_at (by decide)).trans ((w_up_at (by decide)).trans (((tr14.2.2.2.1 158 5 (by decide) (by decide) (by decide) (Or.inl (by decide))).trans (l5))))) (fun r28 => ?_)
                      refine wb_gfi 227 rfl (wy_pr rfl) wt_227 wf_7_2 (v := h) ((w_up_slot (by decide)).trans ((w_up_slot (by decide)).trans (((tr14.2.2.2.1 227 2 (by decide) (by decide) (by decide) (Or.inl (by decide))).trans (bh))))) (fun r29 => ?_)
                      refine wa_iconst ?_
                      refine wa_isub ?_
                      refine wb_bald 228 rfl (wy_pr rfl) wt_228 (n := (S 228 (-1))) ((w_up_slot (by decide)).trans ((w_up_slot (by decide)).trans (((tr14.2.2.2.1 228 (-1) (by decide) (by decide) (by decide) (Or.inl (by decide))).trans (rfl))))) (by omega) (by omega) (v := ky) ((w_up_slot (by decide)).trans ((w_up_slot (by decide)).trans (((tr14.2.2.2.1 228 (h - 1) (by decide) (by decide) (by decide) (Or.inl (by decide))).trans (hky))))) (fun r30 => ?_)
                      refine wb_pfi 158 rfl (wy_pr rfl) wt_158 wf_5_16 (n := 16) rfl ⟨(by omega), (by omega)⟩ ?_
                      refine wa_aload_n (n := 0) rfl ?_
                      refine wa_aload_n (n := 0) rfl ?_
                      refine wb_gf5 158 rfl (wy_pr rfl) wt_158 wf_5_5 (v := 227) ((w_up_at (by decide)).trans ((w_up_at (by decide)).trans ((w_up_at (by decide)).trans (((tr14.2.2.2.1 158 5 (by decide) (by decide) (by decide) (Or.inl (by decide))).trans (l5)))))) (fun r31 => ?_)
                      refine wb_gf4 227 rfl (wy_pr rfl) wt_227 wf_7_1 (v := 229) wl_227_1 ?_
                      refine wa_aload_n (n := 0) rfl ?_
                      refine wb_gf5 158 rfl (wy_pr rfl) wt_158 wf_5_5 (v := 227) ((w_up_at (by decide)).trans ((w_up_at (by decide)).trans ((w_up_at (by decide)).trans (((tr14.2.2.2.1 158 5 (by decide) (by decide) (by decide) (Or.inl (by decide))).trans (l5)))))) (fun r32 => ?_)
                      refine wb_gfi 227 rfl (wy_pr rfl) wt_227 wf_7_2 (v := h) ((w_up_slot (by decide)).trans ((w_up_slot (by decide)).trans ((w_up_slot (by decide)).trans (((tr14.2.2.2.1 227 2 (by decide) (by decide) (by decide) (Or.inl (by decide))).trans (bh)))))) (fun r33 => ?_)
                      refine wa_iconst ?_
                      refine wa_isub ?_
                      refine wb_lald 229 rfl (wy_pr rfl) wt_229 (n := (S 228 (-1))) ((w_up_slot (by decide)).trans ((w_up_slot (by decide)).trans ((w_up_slot (by decide)).trans (((tr14.2.2.2.1 229 (-1) (by decide) (by decide) (by decide) (Or.inl (by decide))).trans (bl1)))))) (by omega) (by omega) (v := vy) ((w_up_slot (by decide)).trans ((w_up_slot (by decide)).trans ((w_up_slot (by decide)).trans (((tr14.2.2.2.1 229 (h - 1) (by decide) (by decide) (by decide) (Or.inl (by decide))).trans (hvy)))))) (fun r34 => ?_)
                      refine wb_pfl 158 rfl (wy_pr rfl) wt_158 wf_5_17 (n := 17) rfl ⟨(by omega), (by omega)⟩ ?_
                      refine wa_fall ⟨_, rfl⟩ ?_
                      refine wa_aload_n (n := 0) rfl ?_
                      refine wa_aload_n (n := 0) rfl ?_
                      refine wb_gfi 158 rfl (wy_pr rfl) wt_158 wf_5_16 (v := ky) ((w_up_at (by decide)).trans (w_up_same _ _ _ _)) (fun r35 => ?_)
                      refine wa_aload_n (n := 0) rfl ?_
                      refine wb_gfl 158 rfl (wy_pr rfl) wt_158 wf_5_17 (v := vy) (w_up_same _ _ _ _) (fun r36 => ?_)
                      refine wa_cv 158 rfl (wy_pr rfl) wt_158 (M2 := mS [228, 229]) rfl at_XL_giveValue ⟨_, rfl⟩ rfl rfl ⟨trivial, trivial, trivial, (Or.inr ⟨wy_pr rfl, mS_no rfl⟩), (Or.inr ⟨wy_pr rfl, mS_no rfl⟩), trivial, trivial⟩ trivial (fun _ _ q => mS_sub (by decide) q) (glx_226 (S := (w_up (w_up (w_up (w_up Sq14 158 16 0) 158 17 0) 158 16 ky) 158 17 vy)) (k := ky) (v := vy) (h := h) (c := c) (p := p) (ba := ba) (w_CL_up (w_CL_up (w_CL_up (w_CL_up (CL_tr hC tr14) (by omega)) (by omega)) (by omega)) (by omega)) (gI_up (gI_up (gI_up (gI_up tr14.2.2.2.2.2.1 (by omega) (by omega) (by omega)) (by omega) (by omega) (by omega)) (by omega) (by omega) (by omega)) (by omega) (by omega) (by omega)) ((w_up_at (by decide)).trans ((w_up_at (by decide)).trans ((w_up_at (by decide)).trans ((w_up_at (by decide)).trans (((tr14.2.2.2.1 158 4 (by decide) (by decide) (by decide) (Or.inl (by decide))).trans (l4))))))) ((w_up_at (by decide)).trans ((w_up_at (by decide)).trans ((w_up_at (by decide)).trans ((w_up_at (by decide)).trans (((tr14.2.2.2.1 158 5 (by decide) (by decide) (by decide) (Or.inl (by decide))).trans (l5))))))) ((w_up_at (by decide)).trans ((w_up_at (by decide)).trans ((w_up_at (by decide)).trans ((w_up_at (by decide)).trans (((tr14.2.2.2.1 158 8 (by decide) (by decide) (by decide) (Or.inl (by decide))).trans (l8))))))) ((w_up_slot (by decide)).trans ((w_up_slot (by decide)).trans ((w_up_slot (by decide)).trans ((w_up_slot (by decide)).trans (((tr14.2.2.2.1 226 4 (by decide) (by decide) (by decide) (Or.inl (by decide))).trans (bc))))))) ((w_up_slot (by decide)).trans ((w_up_slot (by decide)).trans ((w_up_slot (by decide)).trans ((w_up_slot (by decide)).trans (((tr14.2.2.2.1 231 (c - 1) (by decide) (by decide) (by decide) (Or.inl (by decide))).trans (bp))))))) ((((w_up_slot (by decide)).trans ((w_up_slot (by decide)).trans ((w_up_slot (by decide)).trans ((w_up_slot (by decide)).trans (((tr14.2.2.2.1 229 (-1) (by decide) (by decide) (by decide) (Or.inl (by decide))).trans (bl1)))))))).trans (((w_up_slot (by decide)).trans ((w_up_slot (by decide)).trans ((w_up_slot (by decide)).trans ((w_up_slot (by decide)).trans (((tr14.2.2.2.1 228 (-1) (by decide) (by decide) (by decide) (Or.inl (by decide))).trans (rfl)))))))).symm) (by have e : (w_up (w_up (w_up (w_up Sq14 158 16 0) 158 17 0) 158 16 ky) 158 17 vy) 228 (-1) = S 228 (-1) := ((w_up_slot (by decide)).trans ((w_up_slot (by decide)).trans ((w_up_slot (by decide)).trans ((w_up_slot (by decide)).trans (((tr14.2.2.2.1 228 (-1) (by decide) (by decide) (by decide) (Or.inl (by decide))).trans (rfl))))))); rw [e]; exact ⟨bl2, bl3⟩) (by have e : (w_up (w_up (w_up (w_up Sq14 158 16 0) 158 17 0) 158 16 ky) 158 17 vy) 228 (-1) = S 228 (-1) := ((w_up_slot (by decide)).trans ((w_up_slot (by decide)).trans ((w_up_slot (by decide)).trans ((w_up_slot (by decide)).trans (((tr14.2.2.2.1 228 (-1) (by decide) (by decide) (by decide) (Or.inl (by decide))).trans (rfl))))))); omega) ⟨by omega, by omega⟩ ⟨by omega, by omega⟩ ⟨by omega, by omega⟩ ⟨by omega, by omega⟩) (fun oq37 Sq37 hp38 q37 => ?_)
                      rcases q37 with ⟨rfl, hgv37⟩
                      show wJ _ _ _ _ _ _ _ _ _ _
                      refine wa_return rfl ?_
                      refine ⟨rfl, Or.inr ⟨by omega, Sq14, (w_up (w_up (w_up (w_up Sq14 158 16 0) 158 17 0) 158 16 ky) 158 17 vy), tr14, ?_, ?_⟩⟩
                      · exact fun j i hji => (w_up_no (by omega)).trans ((w_up_no (by omega)).trans ((w_up_no (by omega)).trans ((w_up_no (by omega)).trans (rfl))))
                      · first | (rw [if_pos (show kd = 1 by omega), if_pos (show kd = 1 by omega)]; exact hgv37) | (rw [if_neg (show ¬ kd = 1 by omega), if_neg (show ¬ kd = 1 by omega)]; exact hgv37)
                  · skip
                    exact absurd c18 (by omega)
                · skip
                  exact absurd c16 (by omega)
              · skip
                exact absurd c12 (by omega)
            · skip
              exact absurd c11 (by omega)
        · skip
          exact absurd c7 (by omega)
      · skip
        exact absurd c6 (by omega)
  · skip
    exact absurd c3 (by omega)
set_option maxHeartbeats 4000000 in
theorem cmn_73_226 {c p h kd ba m en tn ky vy ty : Int} (hP : xP 226 c p h S) (l4 : S 158 4 = 226) (l5 : S 158 5 = 227) (l7 : S 158 7 = kd) (l8 : S 158 8 = ba) (l12 : S 158 12 = en) (hen : 0 ≤ en ∧ en ≤ 1000) (hba : 0 ≤ ba ∧ ba < h) (h72 : S 72 1 = 73) (hm : 0 ≤ m ∧ m < 400) (hso : S 98 m = 1) (ht15 : S 72 15 = tn) (ht0 : 0 ≤ tn ∧ tn ≤ S 152 (-1) ∧ tn ≤ 100000) (ht9 : 16 ≤ S 152 (-1) ∧ S 152 (-1) ≤ 131072 ∨ (16 ≤ S 152 (-1) ∧ S 152 (-1) ≤ 262143 ∧ tn + 2 ≤ S 152 (-1))) (hky : S 228 (h - 1) = ky) (hvy : S 229 (h - 1) = vy) (hkr : -128 ≤ ky ∧ ky ≤ 127) (hvr : -9223372036854775808 ≤ vy ∧ vy ≤ 9223372036854775807) {es : List (Int × Int)} (hmt : S 100 m = ty) (hmf : S 112 m = -1) (htr : 1 ≤ ty ∧ ty ≤ 6) (hel : en = (es.length : Int)) (heb : ba + 1 + en ≤ h) (hes : ∀ i : Nat, i < es.length → S 228 (ba + 1 + (i : Int)) = (es.getD i (0, 0)).1 ∧ S 229 (ba + 1 + (i : Int)) = (es.getD i (0, 0)).2) : wJ (pe_GA xs) wY0 (mS [228, 229, 152]) (d + 6) t_XL_callMember ((pe_at t_XL_callMember.bl 0).getD (0, [])).2 [(0, (2, 158)), (1, (0, m))] [] S (fun o Z => o = .inl none ∧ ((100000 < tn + 2 ∧ w_up S 226 16 99 = Z) ∨ (¬ (100000 < tn + 2) ∧ cmE 226 h c p (h - ba) kd ky vy (anK ty) (anB ty (anS m es)) m en gvR S Z))) := by
  obtain ⟨⟨hC, hI⟩, ⟨bc, bc0, bc1⟩, ⟨bp, bp0, bp1⟩, ⟨bh, bh0, bh1, bh2⟩, bl1, bl2, bl3⟩ := hP
  replace bp : S 231 (c - 1) = p := bp
  replace bh : S 227 2 = h := bh
  replace bh2 : h ≤ S 228 (-1) := bh2
  replace bl1 : S 229 (-1) = S 228 (-1) := bl1
  replace bl2 : 64 ≤ S 228 (-1) := bl2
  replace bl3 : S 228 (-1) ≤ 4095 := bl3
  have hak : 1 ≤ anK ty ∧ anK ty ≤ 2 := by unfold anK; split <;> omega
  have hab : -9223372036854775808 ≤ anB ty (anS m es) ∧ anB ty (anS m es) ≤ 9223372036854775807 := by
    have z1 := land_1 (anS m es)
    have z2 := wb_l2i_rg (anS m es)
    have z3 := w64_rg (anS m es)
    unfold anB
    split
    · omega
    · split <;> omega
  refine wa_aload_n (n := 0) rfl ?_
  refine wb_gf4 158 rfl (wy_pr rfl) wt_158 wf_5_0 (v := 72) wl_158_0 ?_
  refine wb_gf5 72 rfl (wy_pr rfl) wt_72 wf_2_1 (v := 73) (h72) (fun r1 => ?_)
  refine wa_astore_n (n := 2) rfl ?_
  refine wa_aload_n (n := 2) rfl ?_
  refine wb_gf4 73 rfl (wy_pr rfl) wt_73 wf_3_3 (v := 96) wl_73_3 ?_
  refine wa_iconst ?_
  refine wb_aald5 96 1 rfl rfl (wy_pr rfl) wt_96 (by rw [show _ = _ from ((cl_96 hC))]; omega) wl_96_1 ?_
  refine wa_iload_n (n := 1) rfl ?_
  refine wb_iald 98 rfl (wy_pr rfl) wt_98 (n := 400) ((cl_98 hC)) (by omega) (by omega) (v := 1) (hso) (fun r2 => ?_)
  refine wa_iconst ?_
  refine wa_icmpne (w_rg0 (by omega) (by omega)) (w_rg0 (by omega) (by omega)) ⟨_, rfl⟩ (fun c3 => ?_) (fun c3 => ?_)
  · skip
    refine wa_iconst ?_
    refine wa_fall ⟨_, rfl⟩ ?_
    refine wa_istore_n (n := 3) rfl ?_
    refine wa_iload_n (n := 3) rfl ?_
    refine wa_ifne (w_rg0 (by omega) (by omega)) ⟨_, rfl⟩ (fun c4 => ?_) (fun c4 => ?_)
    · skip
      exact absurd c4 (by omega)
    · skip
      refine wa_aload_n (n := 2) rfl ?_
      refine wb_gf4 73 rfl (wy_pr rfl) wt_73 wf_3_3 (v := 96) wl_73_3 ?_
      refine wa_iconst ?_
      refine wb_aald5 96 3 rfl rfl (wy_pr rfl) wt_96 (by rw [show _ = _ from ((cl_96 hC))]; omega) wl_96_3 ?_
      refine wa_iload_n (n := 1) rfl ?_
      refine wb_iald 100 rfl (wy_pr rfl) wt_100 (n := 400) ((cl_100 hC)) (by omega) (by omega) (v := ty) (hmt) (fun r5 => ?_)
      refine wa_bipush (w_rg2 (by omega) (by omega)) ?_
      refine wa_icmpne (w_rg0 (by omega) (by omega)) (w_rg0 (by omega) (by omega)) ⟨_, rfl⟩ (fun c6 => ?_) (fun c6 => ?_)
      · skip
        refine wa_iconst ?_
        refine wa_fall ⟨_, rfl⟩ ?_
        refine wa_istore (n := 4) rfl ?_
        refine wa_iload_n (n := 3) rfl ?_
        refine wa_ifeq (w_rg0 (by omega) (by omega)) ⟨_, rfl⟩ (fun c7 => ?_) (fun c7 => ?_)
        · skip
          refine wa_iconst ?_
          refine wa_fall ⟨_, rfl⟩ ?_
          refine wa_istore (n := 5) rfl ?_
          refine wa_aload_n (n := 0) rfl ?_
          refine wb_gf4 158 rfl (wy_pr rfl) wt_158 wf_5_0 (v := 72) wl_158_0 ?_
          refine wb_gfi 72 rfl (wy_pr rfl) wt_72 wf_2_15 (v := tn) (ht15) (fun r8 => ?_)
          refine wa_iconst ?_
          refine wa_iadd ?_
          refine wb_ki (n := 100000) rfl ?_
          refine wa_icmpgt (w_rg0 (by omega) (by omega)) (w_rg0 (by omega) (by omega)) ⟨_, rfl⟩ (fun c9 => ?_) (fun c9 => ?_)
          · skip
            refine wa_aload_n (n := 0) rfl ?_
            refine wb_gf5 158 rfl (wy_pr rfl) wt_158 wf_5_4 (v := 226) (l4) (fun r10 => ?_)
            refine wa_bipush (w_rg2 (by omega) (by omega)) ?_
            refine wb_pfi 226 rfl (wy_pr rfl) wt_226 wf_8_16 (n := 16) rfl ⟨(by omega), (by omega)⟩ ?_
            refine wa_return rfl ?_
            exact ⟨rfl, Or.inl ⟨by omega, rfl⟩⟩
          · skip
            refine wa_iload_n (n := 3) rfl ?_
            refine wa_ifeq (w_rg0 (by omega) (by omega)) ⟨_, rfl⟩ (fun c11 => ?_) (fun c11 => ?_)
            · skip
              refine wa_iload (n := 4) rfl ?_
              refine wa_ifeq (w_rg0 (by omega) (by omega)) ⟨_, rfl⟩ (fun c12 => ?_) (fun c12 => ?_)
              · skip
                refine wa_aload_n (n := 0) rfl ?_
                refine wb_gf4 158 rfl (wy_pr rfl) wt_158 wf_5_0 (v := 72) wl_158_0 ?_
                refine wa_iload_n (n := 1) rfl ?_
                refine wa_aload_n (n := 0) rfl ?_
                refine wb_gfi 158 rfl (wy_pr rfl) wt_158 wf_5_12 (v := en) (l12) (fun r13 => ?_)
                refine wa_cv 72 rfl (wy_pr rfl) wt_72 (M2 := mS [152]) rfl at_XH_addTrace ⟨_, rfl⟩ rfl rfl ⟨trivial, trivial, trivial, (Or.inr ⟨wy_pr rfl, mS_no rfl⟩), (Or.inr ⟨wy_pr rfl, mS_no rfl⟩), trivial, trivial⟩ trivial (fun _ _ q => mS_sub (by decide) q) (tra (S := S) (m := m) (k := en) hI ⟨by omega, by omega⟩ ⟨by omega, by omega⟩ (by rw [ht15]; exact ht0) (by rw [ht15]; exact ht9)) (fun oq14 Sq14 hp15 q14 => ?_)
                rcases q14 with ⟨rfl, tr14⟩
                show wJ _ _ _ _ _ _ _ _ _ _
                refine wa_aload_n (n := 0) rfl ?_
                refine wa_iconst ?_
                refine wb_pfi 158 rfl (wy_pr rfl) wt_158 wf_5_16 (n := 16) rfl ⟨(by omega), (by omega)⟩ ?_
                refine wa_aload_n (n := 0) rfl ?_
                refine wb_lconst (m := 0) rfl ?_
                refine wb_pfl 158 rfl (wy_pr rfl) wt_158 wf_5_17 (n := 17) rfl ⟨(by omega), (by omega)⟩ ?_
                refine wa_iload_n (n := 3) rfl ?_
                refine wa_ifeq (w_rg0 (by omega) (by omega)) ⟨_, rfl⟩ (fun c16 => ?_) (fun c16 => ?_)
                · skip
                  refine wa_aload_n (n := 2) rfl ?_
                  refine wb_gf4 73 rfl (wy_pr rfl) wt_73 wf_3_3 (v := 96) wl_73_3 ?_
                  refine wa_bipush (w_rg2 (by omega) (by omega)) ?_
                  refine wb_aald5 96 15 rfl rfl (wy_pr rfl) wt_96 (by rw [show _ = _ from ((w_up_slot (by decide)).trans ((w_up_slot (by decide)).trans (((tr14.2.2.2.1 96 (-1) (by decide) (by decide) (by decide) (Or.inl (by decide))).trans ((cl_96 hC))))))]; omega) wl_96_15 ?_
                  refine wa_iload_n (n := 1) rfl ?_
                  refine wb_iald 112 rfl (wy_pr rfl) wt_112 (n := 400) ((w_up_slot (by decide)).trans ((w_up_slot (by decide)).trans (((tr14.2.2.2.1 112 (-1) (by decide) (by decide) (by decide) (Or.inl (by decide))).trans ((cl_112 hC)))))) (by omega) (by omega) (v := (-1)) ((w_up_slot (by decide)).trans ((w_up_slot (by decide)).trans (((tr14.2.2.2.1 112 m (by decide) (by decide) (by decide) (Or.inl (by decide))).trans (hmf))))) (fun r17 => ?_)
                  refine wa_iconst ?_
                  refine wa_icmpeq (w_rg0 (by omega) (by omega)) (w_rg0 (by omega) (by omega)) ⟨_, rfl⟩ (fun c18 => ?_) (fun c18 => ?_)
                  · skip
                    refine wa_aload_n (n := 0) rfl ?_
                    refine wa_iload_n (n := 1) rfl ?_
                    have hf2 : ∀ (j : Nat) (i : Int), j < 4000000 → j ≠ wG → j ≠ 152 → j ≠ 72 → j ≠ 158 → (w_up (w_up Sq14 158 16 0) 158 17 0) j i = S j i := fun j i a b c d e => (w_up_no (fun z => e z.1)).trans ((w_up_no (fun z => e z.1)).trans (tr14.2.2.2.1 j i a b c (Or.inl d)))
                    have el : (w_up (w_up Sq14 158 16 0) 158 17 0) 228 (-1) = S 228 (-1) := (hf2 228 _ (by first | decide | omega) (by first | decide | omega) (by first | decide | omega) (by first | decide | omega) (by first | decide | omega))
                    have el2 : (w_up (w_up Sq14 158 16 0) 158 17 0) 229 (-1) = S 229 (-1) := (hf2 229 _ (by first | decide | omega) (by first | decide | omega) (by first | decide | omega) (by first | decide | omega) (by first | decide | omega))
                    refine wa_cv 158 rfl (wy_pr rfl) wt_158 (M2 := fun _ => False) rfl at_XL_answer ⟨_, rfl⟩ rfl rfl ⟨trivial, trivial, trivial, (Or.inr ⟨wy_pr rfl, fun q => q⟩), (Or.inr ⟨wy_pr rfl, fun q => q⟩), trivial, trivial⟩ trivial (fun _ _ q => False.elim q) (ann_73_226 (S := (w_up (w_up Sq14 158 16 0) 158 17 0)) (m := m) (es := es) (w_CL_up (w_CL_up (CL_tr hC tr14) (by omega)) (by omega)) ((w_up_slot (by decide)).trans ((w_up_slot (by decide)).trans (((tr14.2.2.2.1 72 1 (by decide) (by decide) (by decide) (Or.inr (by decide))).trans (h72))))) ((w_up_at (by decide)).trans ((w_up_at (by decide)).trans (((tr14.2.2.2.1 158 5 (by decide) (by decide) (by decide) (Or.inl (by decide))).trans (l5))))) ((w_up_at (by decide)).trans ((w_up_at (by decide)).trans (((tr14.2.2.2.1 158 8 (by decide) (by decide) (by decide) (Or.inl (by decide))).trans (l8))))) (((w_up_at (by decide)).trans ((w_up_at (by decide)).trans (((tr14.2.2.2.1 158 12 (by decide) (by decide) (by decide) (Or.inl (by decide))).trans (l12))))).trans hel) hm ((w_up_slot (by decide)).trans ((w_up_slot (by decide)).trans (((tr14.2.2.2.1 100 m (by decide) (by decide) (by decide) (Or.inl (by decide))).trans (hmt))))) htr (by rw [el, el2]; exact bl1) (by rw [el]; exact ⟨by omega, by omega, bl3⟩) (fun i hi => ⟨(hf2 228 _ (by decide) (by decide) (by decide) (by decide) (by decide)).trans (hes i hi).1, (hf2 229 _ (by decide) (by decide) (by decide) (by decide) (by decide)).trans (hes i hi).2⟩)) (fun oq19 Sq19 hp20 q19 => ?_)
                    rcases q19 with ⟨rfl, rfl⟩
                    show wJ _ _ _ _ _ _ _ _ _ _
                    refine wa_fall ⟨_, rfl⟩ ?_
                    refine wa_aload_n (n := 0) rfl ?_
                    refine wb_gfi 158 rfl (wy_pr rfl) wt_158 wf_5_7 (v := kd) ((w_up_at (by decide)).trans ((w_up_at (by decide)).trans ((w_up_at (by decide)).trans ((w_up_at (by decide)).trans (((tr14.2.2.2.1 158 7 (by decide) (by decide) (by decide) (Or.inl (by decide))).trans (l7))))))) (fun r21 => ?_)
                    refine wa_iconst ?_
                    refine wa_icmpne (w_rg0 (by omega) (by omega)) (w_rg0 (by omega) (by omega)) ⟨_, rfl⟩ (fun c22 => ?_) (fun c22 => ?_)
                    · skip
                      refine wa_aload_n (n := 0) rfl ?_
                      refine wa_aload_n (n := 0) rfl ?_
                      refine wb_gfi 158 rfl (wy_pr rfl) wt_158 wf_5_16 (v := (anK ty)) ((w_up_at (by decide)).trans (w_up_same _ _ _ _)) (fun r23 => ?_)
                      refine wa_aload_n (n := 0) rfl ?_
                      refine wb_gfl 158 rfl (wy_pr rfl) wt_158 wf_5_17 (v := (anB ty (anS m es))) (w_up_same _ _ _ _) (fun r24 => ?_)
                      refine wa_cv 158 rfl (wy_pr rfl) wt_158 (M2 := mS [228, 229]) rfl at_XL_giveValue ⟨_, rfl⟩ rfl rfl ⟨trivial, trivial, trivial, (Or.inr ⟨wy_pr rfl, mS_no rfl⟩), (Or.inr ⟨wy_pr rfl, mS_no rfl⟩), trivial, trivial⟩ trivial (fun _ _ q => mS_sub (by decide) q) (glx_226 (S := (w_up (w_up (w_up (w_up Sq14 158 16 0) 158 17 0) 158 16 (anK ty)) 158 17 (anB ty (anS m es)))) (k := (anK ty)) (v := (anB ty (anS m es))) (h := h) (c := c) (p := p) (ba := ba) (w_CL_up (w_CL_up (w_CL_up (w_CL_up (CL_tr hC tr14) (by omega)) (by omega)) (by omega)) (by omega)) (gI_up (gI_up (gI_up (gI_up tr14.2.2.2.2.2.1 (by omega) (by omega) (by omega)) (by omega) (by omega) (by omega)) (by omega) (by omega) (by omega)) (by omega) (by omega) (by omega)) ((w_up_at (by decide)).trans ((w_up_at (by decide)).trans ((w_up_at (by decide)).trans ((w_up_at (by decide)).trans (((tr14.2.2.2.1 158 4 (by decide) (by decide) (by decide) (Or.inl (by decide))).trans (l4))))))) ((w_up_at (by decide)).trans ((w_up_at (by decide)).trans ((w_up_at (by decide)).trans ((w_up_at (by decide)).trans (((tr14.2.2.2.1 158 5 (by decide) (by decide) (by decide) (Or.inl (by decide))).trans (l5))))))) ((w_up_at (by decide)).trans ((w_up_at (by decide)).trans ((w_up_at (by decide)).trans ((w_up_at (by decide)).trans (((tr14.2.2.2.1 158 8 (by decide) (by decide) (by decide) (Or.inl (by decide))).trans (l8))))))) ((w_up_slot (by decide)).trans ((w_up_slot (by decide)).trans ((w_up_slot (by decide)).trans ((w_up_slot (by decide)).trans (((tr14.2.2.2.1 226 4 (by decide) (by decide) (by decide) (Or.inl (by decide))).trans (bc))))))) ((w_up_slot (by decide)).trans ((w_up_slot (by decide)).trans ((w_up_slot (by decide)).trans ((w_up_slot (by decide)).trans (((tr14.2.2.2.1 231 (c - 1) (by decide) (by decide) (by decide) (Or.inl (by decide))).trans (bp))))))) ((((w_up_slot (by decide)).trans ((w_up_slot (by decide)).trans ((w_up_slot (by decide)).trans ((w_up_slot (by decide)).trans (((tr14.2.2.2.1 229 (-1) (by decide) (by decide) (by decide) (Or.inl (by decide))).trans (bl1)))))))).trans (((w_up_slot (by decide)).trans ((w_up_slot (by decide)).trans ((w_up_slot (by decide)).trans ((w_up_slot (by decide)).trans (((tr14.2.2.2.1 228 (-1) (by decide) (by decide) (by decide) (Or.inl (by decide))).trans (rfl)))))))).symm) (by have e : (w_up (w_up (w_up (w_up Sq14 158 16 0) 158 17 0) 158 16 (anK ty)) 158 17 (anB ty (anS m es))) 228 (-1) = S 228 (-1) := ((w_up_slot (by decide)).trans ((w_up_slot (by decide)).trans ((w_up_slot (by decide)).trans ((w_up_slot (by decide)).trans (((tr14.2.2.2.1 228 (-1) (by decide) (by decide) (by decide) (Or.inl (by decide))).trans (rfl))))))); rw [e]; exact ⟨bl2, bl3⟩) (by have e : (w_up (w_up (w_up (w_up Sq14 158 16 0) 158 17 0) 158 16 (anK ty)) 158 17 (anB ty (anS m es))) 228 (-1) = S 228 (-1) := ((w_up_slot (by decide)).trans ((w_up_slot (by decide)).trans ((w_up_slot (by decide)).trans ((w_up_slot (by decide)).trans (((tr14.2.2.2.1 228 (-1) (by decide) (by decide) (by decide) (Or.inl (by decide))).trans (rfl))))))); omega) ⟨by omega, by omega⟩ ⟨by omega, by omega⟩ ⟨by omega, by omega⟩ ⟨by omega, by omega⟩) (fun oq25 Sq25 hp26 q25 => ?_)
                      rcases q25 with ⟨rfl, hgv25⟩
                      show wJ _ _ _ _ _ _ _ _ _ _
                      refine wa_return rfl ?_
                      refine ⟨rfl, Or.inr ⟨by omega, Sq14, (w_up (w_up (w_up (w_up Sq14 158 16 0) 158 17 0) 158 16 (anK ty)) 158 17 (anB ty (anS m es))), tr14, ?_, ?_⟩⟩
                      · exact fun j i hji => (w_up_no (by omega)).trans ((w_up_no (by omega)).trans ((w_up_no (by omega)).trans ((w_up_no (by omega)).trans (rfl))))
                      · first | (rw [if_pos (show kd = 1 by omega), if_pos (show kd = 1 by omega)]; exact hgv25) | (rw [if_neg (show ¬ kd = 1 by omega), if_neg (show ¬ kd = 1 by omega)]; exact hgv25)
                    · skip
                      refine wa_aload_n (n := 0) rfl ?_
                      refine wa_aload_n (n := 0) rfl ?_
                      refine wb_gf5 158 rfl (wy_pr rfl) wt_158 wf_5_5 (v := 227) ((w_up_at (by decide)).trans ((w_up_at (by decide)).trans ((w_up_at (by decide)).trans ((w_up_at (by decide)).trans (((tr14.2.2.2.1 158 5 (by decide) (by decide) (by decide) (Or.inl (by decide))).trans (l5))))))) (fun r27 => ?_)
                      refine wb_gf4 227 rfl (wy_pr rfl) wt_227 wf_7_0 (v := 228) wl_227_0 ?_
                      refine wa_aload_n (n := 0) rfl ?_
                      refine wb_gf5 158 rfl (wy_pr rfl) wt_158 wf_5_5 (v := 227) ((w_up_at (by decide)).trans ((w_up_at (by decide)).trans ((w_up_at (by decide)).trans ((w_up_at (by decide)).trans (((tr14.2.2.2.1 158 5 (by decide) (by decide) (by decide) (Or.inl (by decide))).trans (l5))))))) (fun r28 => ?_)
                      refine wb_gfi 227 rfl (wy_pr rfl) wt_227 wf_7_2 (v := h) ((w_up_slot (by decide)).trans ((w_up_slot (by decide)).trans ((w_up_slot (by decide)).trans ((w_up_slot (by decide)).trans (((tr14.2.2.2.1 227 2 (by decide) (by decide) (by decide) (Or.inl (by decide))).trans (bh))))))) (fun r29 => ?_)
                      refine wa_iconst ?_
                      refine wa_isub ?_
                      refine wb_bald 228 rfl (wy_pr rfl) wt_228 (n := (S 228 (-1))) ((w_up_slot (by decide)).trans ((w_up_slot (by decide)).trans ((w_up_slot (by decide)).trans ((w_up_slot (by decide)).trans (((tr14.2.2.2.1 228 (-1) (by decide) (by decide) (by decide) (Or.inl (by decide))).trans (rfl))))))) (by omega) (by omega) (v := ky) ((w_up_slot (by decide)).trans ((w_up_slot (by decide)).trans ((w_up_slot (by decide)).trans ((w_up_slot (by decide)).trans (((tr14.2.2.2.1 228 (h - 1) (by decide) (by decide) (by decide) (Or.inl (by decide))).trans (hky))))))) (fun r30 => ?_)
                      refine wb_pfi 158 rfl (wy_pr rfl) wt_158 wf_5_16 (n := 16) rfl ⟨(by omega), (by omega)⟩ ?_
                      refine wa_aload_n (n := 0) rfl ?_
                      refine wa_aload_n (n := 0) rfl ?_
                      refine wb_gf5 158 rfl (wy_pr rfl) wt_158 wf_5_5 (v := 227) ((w_up_at (by decide)).trans ((w_up_at (by decide)).trans ((w_up_at (by decide)).trans ((w_up_at (by decide)).trans ((w_up_at (by decide)).trans (((tr14.2.2.2.1 158 5 (by decide) (by decide) (by decide) (Or.inl (by decide))).trans (l5)))))))) (fun r31 => ?_)
                      refine wb_gf4 227 rfl (wy_pr rfl) wt_227 wf_7_1 (v := 229) wl_227_1 ?_
                      refine wa_aload_n (n := 0) rfl ?_
                      refine wb_gf5 158 rfl (wy_pr rfl) wt_158 wf_5_5 (v := 227) ((w_up_at (by decide)).trans ((w_up_at (by decide)).trans ((w_up_at (by decide)).trans ((w_up_at (by decide)).trans ((w_up_at (by decide)).trans (((tr14.2.2.2.1 158 5 (by decide) (by decide) (by decide) (Or.inl (by decide))).trans (l5)))))))) (fun r32 => ?_)
                      refine wb_gfi 227 rfl (wy_pr rfl) wt_227 wf_7_2 (v := h) ((w_up_slot (by decide)).trans ((w_up_slot (by decide)).trans ((w_up_slot (by decide)).trans ((w_up_slot (by decide)).trans ((w_up_slot (by decide)).trans (((tr14.2.2.2.1 227 2 (by decide) (by decide) (by decide) (Or.inl (by decide))).trans (bh)))))))) (fun r33 => ?_)
                      refine wa_iconst ?_
                      refine wa_isub ?_
                      refine wb_lald 229 rfl (wy_pr rfl) wt_229 (n := (S 228 (-1))) ((w_up_slot (by decide)).trans ((w_up_slot (by decide)).trans ((w_up_slot (by decide)).trans ((w_up_slot (by decide)).trans ((w_up_slot (by decide)).trans (((tr14.2.2.2.1 229 (-1) (by decide) (by decide) (by decide) (Or.inl (by decide))).trans (bl1)))))))) (by omega) (by omega) (v := vy) ((w_up_slot (by decide)).trans ((w_up_slot (by decide)).trans ((w_up_slot (by decide)).trans ((w_up_slot (by decide)).trans ((w_up_slot (by decide)).trans (((tr14.2.2.2.1 229 (h - 1) (by decide) (by decide) (by decide) (Or.inl (by decide))).trans (hvy)))))))) (fun r34 => ?_)
                      refine wb_pfl 158 rfl (wy_pr rfl) wt_158 wf_5_17 (n := 17) rfl ⟨(by omega), (by omega)⟩ ?_
                      refine wa_fall ⟨_, rfl⟩ ?_
                      refine wa_aload_n (n := 0) rfl ?_
                      refine wa_aload_n (n := 0) rfl ?_
                      refine wb_gfi 158 rfl (wy_pr rfl) wt_158 wf_5_16 (v := ky) ((w_up_at (by decide)).trans (w_up_same _ _ _ _)) (fun r35 => ?_)
                      refine wa_aload_n (n := 0) rfl ?_
                      refine wb_gfl 158 rfl (wy_pr rfl) wt_158 wf_5_17 (v := vy) (w_up_same _ _ _ _) (fun r36 => ?_)
                      refine wa_cv 158 rfl (wy_pr rfl) wt_158 (M2 := mS [228, 229]) rfl at_XL_giveValue ⟨_, rfl⟩ rfl rfl ⟨trivial, trivial, trivial, (Or.inr ⟨wy_pr rfl, mS_no rfl⟩), (Or.inr ⟨wy_pr rfl, mS_no rfl⟩), trivial, trivial⟩ trivial (fun _ _ q => mS_sub (by decide) q) (glx_226 (S := (w_up (w_up (w_up (w_up (w_up (w_up Sq14 158 16 0) 158 17 0) 158 16 (anK ty)) 158 17 (anB ty (anS m es))) 158 16 ky) 158 17 vy)) (k := ky) (v := vy) (h := h) (c := c) (p := p) (ba := ba) (w_CL_up (w_CL_up (w_CL_up (w_CL_up (w_CL_up (w_CL_up (CL_tr hC tr14) (by omega)) (by omega)) (by omega)) (by omega)) (by omega)) (by omega)) (gI_up (gI_up (gI_up (gI_up (gI_up (gI_up tr14.2.2.2.2.2.1 (by omega) (by omega) (by omega)) (by omega) (by omega) (by omega)) (by omega) (by omega) (by omega)) (by omega) (by omega) (by omega)) (by omega) (by omega) (by omega)) (by omega) (by omega) (by omega)) ((w_up_at (by decide)).trans ((w_up_at (by decide)).trans ((w_up_at (by decide)).trans ((w_up_at (by decide)).trans ((w_up_at (by decide)).trans ((w_up_at (by decide)).trans (((tr14.2.2.2.1 158 4 (by decide) (by decide) (by decide) (Or.inl (by decide))).trans (l4))))))))) ((w_up_at (by decide)).trans ((w_up_at (by decide)).trans ((w_up_at (by decide)).trans ((w_up_at (by decide)).trans ((w_up_at (by decide)).trans ((w_up_at (by decide)).trans (((tr14.2.2.2.1 158 5 (by decide) (by decide) (by decide) (Or.inl (by decide))).trans (l5))))))))) ((w_up_at (by decide)).trans ((w_up_at (by decide)).trans ((w_up_at (by decide)).trans ((w_up_at (by decide)).trans ((w_up_at (by decide)).trans ((w_up_at (by decide)).trans (((tr14.2.2.2.1 158 8 (by decide) (by decide) (by decide) (Or.inl (by decide))).trans (l8))))))))) ((w_up_slot (by decide)).trans ((w_up_slot (by decide)).trans ((w_up_slot (by decide)).trans ((w_up_slot (by decide)).trans ((w_up_slot (by decide)).trans ((w_up_slot (by decide)).trans (((tr14.2.2.2.1 226 4 (by decide) (by decide) (by decide) (Or.inl (by decide))).trans (bc))))))))) ((w_up_slot (by decide)).trans ((w_up_slot (by decide)).trans ((w_up_slot (by decide)).trans ((w_up_slot (by decide)).trans ((w_up_slot (by decide)).trans ((w_up_slot (by decide)).trans (((tr14.2.2.2.1 231 (c - 1) (by decide) (by decide) (by decide) (Or.inl (by decide))).trans (bp))))))))) ((((w_up_slot (by decide)).trans ((w_up_slot (by decide)).trans ((w_up_slot (by decide)).trans ((w_up_slot (by decide)).trans ((w_up_slot (by decide)).trans ((w_up_slot (by decide)).trans (((tr14.2.2.2.1 229 (-1) (by decide) (by decide) (by decide) (Or.inl (by decide))).trans (bl1)))))))))).trans (((w_up_slot (by decide)).trans ((w_up_slot (by decide)).trans ((w_up_slot (by decide)).trans ((w_up_slot (by decide)).trans ((w_up_slot (by decide)).trans ((w_up_slot (by decide)).trans (((tr14.2.2.2.1 228 (-1) (by decide) (by decide) (by decide) (Or.inl (by decide))).trans (rfl)))))))))).symm) (by have e : (w_up (w_up (w_up (w_up (w_up (w_up Sq14 158 16 0) 158 17 0) 158 16 (anK ty)) 158 17 (anB ty (anS m es))) 158 16 ky) 158 17 vy) 228 (-1) = S 228 (-1) := ((w_up_slot (by decide)).trans ((w_up_slot (by decide)).trans ((w_up_slot (by decide)).trans ((w_up_slot (by decide)).trans ((w_up_slot (by decide)).trans ((w_up_slot (by decide)).trans (((tr14.2.2.2.1 228 (-1) (by decide) (by decide) (by decide) (Or.inl (by decide))).trans (rfl))))))))); rw [e]; exact ⟨bl2, bl3⟩) (by have e : (w_up (w_up (w_up (w_up (w_up (w_up Sq14 158 16 0) 158 17 0) 158 16 (anK ty)) 158 17 (anB ty (anS m es))) 158 16 ky) 158 17 vy) 228 (-1) = S 228 (-1) := ((w_up_slot (by decide)).trans ((w_up_slot (by decide)).trans ((w_up_slot (by decide)).trans ((w_up_slot (by decide)).trans ((w_up_slot (by decide)).trans ((w_up_slot (by decide)).trans (((tr14.2.2.2.1 228 (-1) (by decide) (by decide) (by decide) (Or.inl (by decide))).trans (rfl))))))))); omega) ⟨by omega, by omega⟩ ⟨by omega, by omega⟩ ⟨by omega, by omega⟩ ⟨by omega, by omega⟩) (fun oq37 Sq37 hp38 q37 => ?_)
                      rcases q37 with ⟨rfl, hgv37⟩
                      show wJ _ _ _ _ _ _ _ _ _ _
                      refine wa_return rfl ?_
                      refine ⟨rfl, Or.inr ⟨by omega, Sq14, (w_up (w_up (w_up (w_up (w_up (w_up Sq14 158 16 0) 158 17 0) 158 16 (anK ty)) 158 17 (anB ty (anS m es))) 158 16 ky) 158 17 vy), tr14, ?_, ?_⟩⟩
                      · exact fun j i hji => (w_up_no (by omega)).trans ((w_up_no (by omega)).trans ((w_up_no (by omega)).trans ((w_up_no (by omega)).trans ((w_up_no (by omega)).trans ((w_up_no (by omega)).trans (rfl))))))
                      · first | (rw [if_pos (show kd = 1 by omega), if_pos (show kd = 1 by omega)]; exact hgv37) | (rw [if_neg (show ¬ kd = 1 by omega), if_neg (show ¬ kd = 1 by omega)]; exact hgv37)
                  · skip
                    exact absurd c18 (by omega)
                · skip
                  exact absurd c16 (by omega)
              · skip
                exact absurd c12 (by omega)
            · skip
              exact absurd c11 (by omega)
        · skip
          exact absurd c7 (by omega)
      · skip
        exact absurd c6 (by omega)
  · skip
    exact absurd c3 (by omega)
set_option maxHeartbeats 4000000 in
theorem cmg1_73_226 {c p h kd ba m en tn ky vy fl fi gb ty vk vb : Int} (hP : xP 226 c p h S) (l4 : S 158 4 = 226) (l5 : S 158 5 = 227) (l7 : S 158 7 = kd) (l8 : S 158 8 = ba) (l12 : S 158 12 = en) (hen : 0 ≤ en ∧ en ≤ 1000) (hba : 0 ≤ ba ∧ ba < h) (h72 : S 72 1 = 73) (hm : 0 ≤ m ∧ m < 400) (hso : S 98 m = 1) (ht15 : S 72 15 = tn) (ht0 : 0 ≤ tn ∧ tn ≤ S 152 (-1) ∧ tn ≤ 100000) (ht9 : 16 ≤ S 152 (-1) ∧ S 152 (-1) ≤ 131072 ∨ (16 ≤ S 152 (-1) ∧ S 152 (-1) ≤ 262143 ∧ tn + 2 ≤ S 152 (-1))) (hky : S 228 (h - 1) = ky) (hvy : S 229 (h - 1) = vy) (hkr : -128 ≤ ky ∧ ky ≤ 127) (hvr : -9223372036854775808 ≤ vy ∧ vy ≤ 9223372036854775807) (hmf : S 112 m = fl) (hfl : 0 ≤ fl ∧ fl < 400) (hstt : S 99 fl = 1) (hfi : S 112 fl = fi) (l10 : S 158 10 = gb) (hmt : S 100 m = ty) (hmc : S 101 m = 0) (hrl : S 118 (-1) = S 117 (-1)) (hrb : 0 ≤ fi ∧ fi < S 117 (-1) ∧ S 117 (-1) ≤ 8388608) (hvk : S 117 fi = vk) (hvb : S 118 fi = vb) (hvr2 : -128 ≤ vk ∧ vk ≤ 127) (hvs : -9223372036854775808 ≤ vb ∧ vb ≤ 9223372036854775807) : wJ (pe_GA xs) wY0 (mS [228, 229, 152]) (d + 6) t_XL_callMember ((pe_at t_XL_callMember.bl 0).getD (0, [])).2 [(0, (2, 158)), (1, (0, m))] [] S (fun o Z => o = .inl none ∧ ((100000 < tn + 2 ∧ w_up S 226 16 99 = Z) ∨ (¬ (100000 < tn + 2) ∧ cmE 226 h c p (h - ba) kd ky vy vk vb m en gvR S Z))) := by
  obtain ⟨⟨hC, hI⟩, ⟨bc, bc0, bc1⟩, ⟨bp, bp0, bp1⟩, ⟨bh, bh0, bh1, bh2⟩, bl1, bl2, bl3⟩ := hP
  replace bp : S 231 (c - 1) = p := bp
  replace bh : S 227 2 = h := bh
  replace bh2 : h ≤ S 228 (-1) := bh2
  replace bl1 : S 229 (-1) = S 228 (-1) := bl1
  replace bl2 : 64 ≤ S 228 (-1) := bl2
  replace bl3 : S 228 (-1) ≤ 4095 := bl3
  refine wa_aload_n (n := 0) rfl ?_
  refine wb_gf4 158 rfl (wy_pr rfl) wt_158 wf_5_0 (v := 72) wl_158_0 ?_
  refine wb_gf5 72 rfl (wy_pr rfl) wt_72 wf_2_1 (v := 73) (h72) (fun r1 => ?_)
  refine wa_astore_n (n := 2) rfl ?_
  refine wa_aload_n (n := 2) rfl ?_
  refine wb_gf4 73 rfl (wy_pr rfl) wt_73 wf_3_3 (v := 96) wl_73_3 ?_
  refine wa_iconst ?_
  refine wb_aald5 96 1 rfl rfl (wy_pr rfl) wt_96 (by rw [show _ = _ from ((cl_96 hC))]; omega) wl_96_1 ?_
  refine wa_iload_n (n := 1) rfl ?_
  refine wb_iald 98 rfl (wy_pr rfl) wt_98 (n := 400) ((cl_98 hC)) (by omega) (by omega) (v := 1) (hso) (fun r2 => ?_)
  refine wa_iconst ?_
  refine wa_icmpne (w_rg0 (by omega) (by omega)) (w_rg0 (by omega) (by omega)) ⟨_, rfl⟩ (fun c3 => ?_) (fun c3 => ?_)
  · skip
    refine wa_iconst ?_
    refine wa_fall ⟨_, rfl⟩ ?_
    refine wa_istore_n (n := 3) rfl ?_
    refine wa_iload_n (n := 3) rfl ?_
    refine wa_ifne (w_rg0 (by omega) (by omega)) ⟨_, rfl⟩ (fun c4 => ?_) (fun c4 => ?_)
    · skip
      exact absurd c4 (by omega)
    · skip
      refine wa_aload_n (n := 2) rfl ?_
      refine wb_gf4 73 rfl (wy_pr rfl) wt_73 wf_3_3 (v := 96) wl_73_3 ?_
      refine wa_iconst ?_
      refine wb_aald5 96 3 rfl rfl (wy_pr rfl) wt_96 (by rw [show _ = _ from ((cl_96 hC))]; omega) wl_96_3 ?_
      refine wa_iload_n (n := 1) rfl ?_
      refine wb_iald 100 rfl (wy_pr rfl) wt_100 (n := 400) ((cl_100 hC)) (by omega) (by omega) (v := ty) (hmt) (fun r5 => ?_)
      refine wa_bipush (w_rg2 (by omega) (by omega)) ?_
      refine wa_icmpne (w_rg0 (by omega) (by omega)) (w_rg0 (by omega) (by omega)) ⟨_, rfl⟩ (fun c6 => ?_) (fun c6 => ?_)
      · skip
        refine wa_iconst ?_
        refine wa_fall ⟨_, rfl⟩ ?_
        refine wa_istore (n := 4) rfl ?_
        refine wa_iload_n (n := 3) rfl ?_
        refine wa_ifeq (w_rg0 (by omega) (by omega)) ⟨_, rfl⟩ (fun c7 => ?_) (fun c7 => ?_)
        · skip
          refine wa_iconst ?_
          refine wa_fall ⟨_, rfl⟩ ?_
          refine wa_istore (n := 5) rfl ?_
          refine wa_aload_n (n := 0) rfl ?_
          refine wb_gf4 158 rfl (wy_pr rfl) wt_158 wf_5_0 (v := 72) wl_158_0 ?_
          refine wb_gfi 72 rfl (wy_pr rfl) wt_72 wf_2_15 (v := tn) (ht15) (fun r8 => ?_)
          refine wa_iconst ?_
          refine wa_iadd ?_
          refine wb_ki (n := 100000) rfl ?_
          refine wa_icmpgt (w_rg0 (by omega) (by omega)) (w_rg0 (by omega) (by omega)) ⟨_, rfl⟩ (fun c9 => ?_) (fun c9 => ?_)
          · skip
            refine wa_aload_n (n := 0) rfl ?_
            refine wb_gf5 158 rfl (wy_pr rfl) wt_158 wf_5_4 (v := 226) (l4) (fun r10 => ?_)
            refine wa_bipush (w_rg2 (by omega) (by omega)) ?_
            refine wb_pfi 226 rfl (wy_pr rfl) wt_226 wf_8_16 (n := 16) rfl ⟨(by omega), (by omega)⟩ ?_
            refine wa_return rfl ?_
            exact ⟨rfl, Or.inl ⟨by omega, rfl⟩⟩
          · skip
            refine wa_iload_n (n := 3) rfl ?_
            refine wa_ifeq (w_rg0 (by omega) (by omega)) ⟨_, rfl⟩ (fun c11 => ?_) (fun c11 => ?_)
            · skip
              refine wa_iload (n := 4) rfl ?_
              refine wa_ifeq (w_rg0 (by omega) (by omega)) ⟨_, rfl⟩ (fun c12 => ?_) (fun c12 => ?_)
              · skip
                refine wa_aload_n (n := 0) rfl ?_
                refine wb_gf4 158 rfl (wy_pr rfl) wt_158 wf_5_0 (v := 72) wl_158_0 ?_
                refine wa_iload_n (n := 1) rfl ?_
                refine wa_aload_n (n := 0) rfl ?_
                refine wb_gfi 158 rfl (wy_pr rfl) wt_158 wf_5_12 (v := en) (l12) (fun r13 => ?_)
                refine wa_cv 72 rfl (wy_pr rfl) wt_72 (M2 := mS [152]) rfl at_XH_addTrace ⟨_, rfl⟩ rfl rfl ⟨trivial, trivial, trivial, (Or.inr ⟨wy_pr rfl, mS_no rfl⟩), (Or.inr ⟨wy_pr rfl, mS_no rfl⟩), trivial, trivial⟩ trivial (fun _ _ q => mS_sub (by decide) q) (tra (S := S) (m := m) (k := en) hI ⟨by omega, by omega⟩ ⟨by omega, by omega⟩ (by rw [ht15]; exact ht0) (by rw [ht15]; exact ht9)) (fun oq14 Sq14 hp15 q14 => ?_)
                rcases q14 with ⟨rfl, tr14⟩
                show wJ _ _ _ _ _ _ _ _ _ _
                refine wa_aload_n (n := 0) rfl ?_
                refine wa_iconst ?_
                refine wb_pfi 158 rfl (wy_pr rfl) wt_158 wf_5_16 (n := 16) rfl ⟨(by omega), (by omega)⟩ ?_
                refine wa_aload_n (n := 0) rfl ?_
                refine wb_lconst (m := 0) rfl ?_
                refine wb_pfl 158 rfl (wy_pr rfl) wt_158 wf_5_17 (n := 17) rfl ⟨(by omega), (by omega)⟩ ?_
                refine wa_iload_n (n := 3) rfl ?_
                refine wa_ifeq (w_rg0 (by omega) (by omega)) ⟨_, rfl⟩ (fun c16 => ?_) (fun c16 => ?_)
                · skip
                  refine wa_aload_n (n := 2) rfl ?_
                  refine wb_gf4 73 rfl (wy_pr rfl) wt_73 wf_3_3 (v := 96) wl_73_3 ?_
                  refine wa_bipush (w_rg2 (by omega) (by omega)) ?_
                  refine wb_aald5 96 15 rfl rfl (wy_pr rfl) wt_96 (by rw [show _ = _ from ((w_up_slot (by decide)).trans ((w_up_slot (by decide)).trans (((tr14.2.2.2.1 96 (-1) (by decide) (by decide) (by decide) (Or.inl (by decide))).trans ((cl_96 hC))))))]; omega) wl_96_15 ?_
                  refine wa_iload_n (n := 1) rfl ?_
                  refine wb_iald 112 rfl (wy_pr rfl) wt_112 (n := 400) ((w_up_slot (by decide)).trans ((w_up_slot (by decide)).trans (((tr14.2.2.2.1 112 (-1) (by decide) (by decide) (by decide) (Or.inl (by decide))).trans ((cl_112 hC)))))) (by omega) (by omega) (v := fl) ((w_up_slot (by decide)).trans ((w_up_slot (by decide)).trans (((tr14.2.2.2.1 112 m (by decide) (by decide) (by decide) (Or.inl (by decide))).trans (hmf))))) (fun r17 => ?_)
                  refine wa_iconst ?_
                  refine wa_icmpeq (w_rg0 (by omega) (by omega)) (w_rg0 (by omega) (by omega)) ⟨_, rfl⟩ (fun c18 => ?_) (fun c18 => ?_)
                  · skip
                    exact absurd c18 (by omega)
                  · skip
                    refine wa_aload_n (n := 0) rfl ?_
                    refine wa_iload_n (n := 1) rfl ?_
                    refine wa_aload_n (n := 2) rfl ?_
                    refine wb_gf4 73 rfl (wy_pr rfl) wt_73 wf_3_3 (v := 96) wl_73_3 ?_
                    refine wa_bipush (w_rg2 (by omega) (by omega)) ?_
                    refine wb_aald5 96 15 rfl rfl (wy_pr rfl) wt_96 (by rw [show _ = _ from ((w_up_slot (by decide)).trans ((w_up_slot (by decide)).trans (((tr14.2.2.2.1 96 (-1) (by decide) (by decide) (by decide) (Or.inl (by decide))).trans ((cl_96 hC))))))]; omega) wl_96_15 ?_
                    refine wa_iload_n (n := 1) rfl ?_
                    refine wb_iald 112 rfl (wy_pr rfl) wt_112 (n := 400) ((w_up_slot (by decide)).trans ((w_up_slot (by decide)).trans (((tr14.2.2.2.1 112 (-1) (by decide) (by decide) (by decide) (Or.inl (by decide))).trans ((cl_112 hC)))))) (by omega) (by omega) (v := fl) ((w_up_slot (by decide)).trans ((w_up_slot (by decide)).trans (((tr14.2.2.2.1 112 m (by decide) (by decide) (by decide) (Or.inl (by decide))).trans (hmf))))) (fun r19 => ?_)
                    have hf2 : ∀ (j : Nat) (i : Int), j < 4000000 → j ≠ wG → j ≠ 152 → j ≠ 72 → j ≠ 158 → (w_up (w_up Sq14 158 16 0) 158 17 0) j i = S j i := fun j i a b c d e => (w_up_no (fun z => e z.1)).trans ((w_up_no (fun z => e z.1)).trans (tr14.2.2.2.1 j i a b c (Or.inl d)))
                    have el : (w_up (w_up Sq14 158 16 0) 158 17 0) 117 (-1) = S 117 (-1) := (hf2 117 _ (by first | decide | omega) (by first | decide | omega) (by first | decide | omega) (by first | decide | omega) (by first | decide | omega))
                    have el2 : (w_up (w_up Sq14 158 16 0) 158 17 0) 118 (-1) = S 118 (-1) := (hf2 118 _ (by first | decide | omega) (by first | decide | omega) (by first | decide | omega) (by first | decide | omega) (by first | decide | omega))
                    refine wa_cv 158 rfl (wy_pr rfl) wt_158 (M2 := fun _ => False) rfl at_XL_useField ⟨_, rfl⟩ rfl rfl ⟨trivial, trivial, trivial, (Or.inr ⟨wy_pr rfl, fun q => q⟩), (Or.inr ⟨wy_pr rfl, fun q => q⟩), trivial, trivial⟩ trivial (fun _ _ q => False.elim q) (usg1_73_226 (S := (w_up (w_up Sq14 158 16 0) 158 17 0)) (m := m) (f := fl) (w_CL_up (w_CL_up (CL_tr hC tr14) (by omega)) (by omega)) ((w_up_slot (by decide)).trans ((w_up_slot (by decide)).trans (((tr14.2.2.2.1 72 1 (by decide) (by decide) (by decide) (Or.inr (by decide))).trans (h72))))) ((w_up_at (by decide)).trans ((w_up_at (by decide)).trans (((tr14.2.2.2.1 158 5 (by decide) (by decide) (by decide) (Or.inl (by decide))).trans (l5))))) ((w_up_at (by decide)).trans ((w_up_at (by decide)).trans (((tr14.2.2.2.1 158 8 (by decide) (by decide) (by decide) (Or.inl (by decide))).trans (l8))))) (((w_up_at (by decide)).trans ((w_up_at (by decide)).trans ((tr14.2.2.2.1 158 10 (by decide) (by decide) (by decide) (Or.inl (by decide)))))).trans l10) hm hfl ((hf2 99 _ (by decide) (by decide) (by decide) (by decide) (by decide)).trans hstt) ((hf2 112 _ (by decide) (by decide) (by decide) (by decide) (by decide)).trans hfi) (by rw [el, el2]; exact hrl) (by rw [el]; exact hrb) ((hf2 101 _ (by decide) (by decide) (by decide) (by decide) (by decide)).trans hmc) ((hf2 117 _ (by decide) (by decide) (by decide) (by decide) (by decide)).trans hvk) ((hf2 118 _ (by decide) (by decide) (by decide) (by decide) (by decide)).trans hvb)) (fun oq20 Sq20 hp21 q20 => ?_)
                    rcases q20 with ⟨rfl, rfl⟩
                    show wJ _ _ _ _ _ _ _ _ _ _
                    refine wa_goto ⟨_, rfl⟩ ?_
                    refine wa_aload_n (n := 0) rfl ?_
                    refine wb_gfi 158 rfl (wy_pr rfl) wt_158 wf_5_7 (v := kd) ((w_up_at (by decide)).trans ((w_up_at (by decide)).trans ((w_up_at (by decide)).trans ((w_up_at (by decide)).trans (((tr14.2.2.2.1 158 7 (by decide) (by decide) (by decide) (Or.inl (by decide))).trans (l7))))))) (fun r22 => ?_)
                    refine wa_iconst ?_
                    refine wa_icmpne (w_rg0 (by omega) (by omega)) (w_rg0 (by omega) (by omega)) ⟨_, rfl⟩ (fun c23 => ?_) (fun c23 => ?_)
                    · skip
                      refine wa_aload_n (n := 0) rfl ?_
                      refine wa_aload_n (n := 0) rfl ?_
                      refine wb_gfi 158 rfl (wy_pr rfl) wt_158 wf_5_16 (v := vk) ((w_up_at (by decide)).trans (w_up_same _ _ _ _)) (fun r24 => ?_)
                      refine wa_aload_n (n := 0) rfl ?_
                      refine wb_gfl 158 rfl (wy_pr rfl) wt_158 wf_5_17 (v := vb) (w_up_same _ _ _ _) (fun r25 => ?_)
                      refine wa_cv 158 rfl (wy_pr rfl) wt_158 (M2 := mS [228, 229]) rfl at_XL_giveValue ⟨_, rfl⟩ rfl rfl ⟨trivial, trivial, trivial, (Or.inr ⟨wy_pr rfl, mS_no rfl⟩), (Or.inr ⟨wy_pr rfl, mS_no rfl⟩), trivial, trivial⟩ trivial (fun _ _ q => mS_sub (by decide) q) (glx_226 (S := (w_up (w_up (w_up (w_up Sq14 158 16 0) 158 17 0) 158 16 vk) 158 17 vb)) (k := vk) (v := vb) (h := h) (c := c) (p := p) (ba := ba) (w_CL_up (w_CL_up (w_CL_up (w_CL_up (CL_tr hC tr14) (by omega)) (by omega)) (by omega)) (by omega)) (gI_up (gI_up (gI_up (gI_up tr14.2.2.2.2.2.1 (by omega) (by omega) (by omega)) (by omega) (by omega) (by omega)) (by omega) (by omega) (by omega)) (by omega) (by omega) (by omega)) ((w_up_at (by decide)).trans ((w_up_at (by decide)).trans ((w_up_at (by decide)).trans ((w_up_at (by decide)).trans (((tr14.2.2.2.1 158 4 (by decide) (by decide) (by decide) (Or.inl (by decide))).trans (l4))))))) ((w_up_at (by decide)).trans ((w_up_at (by decide)).trans ((w_up_at (by decide)).trans ((w_up_at (by decide)).trans (((tr14.2.2.2.1 158 5 (by decide) (by decide) (by decide) (Or.inl (by decide))).trans (l5))))))) ((w_up_at (by decide)).trans ((w_up_at (by decide)).trans ((w_up_at (by decide)).trans ((w_up_at (by decide)).trans (((tr14.2.2.2.1 158 8 (by decide) (by decide) (by decide) (Or.inl (by decide))).trans (l8))))))) ((w_up_slot (by decide)).trans ((w_up_slot (by decide)).trans ((w_up_slot (by decide)).trans ((w_up_slot (by decide)).trans (((tr14.2.2.2.1 226 4 (by decide) (by decide) (by decide) (Or.inl (by decide))).trans (bc))))))) ((w_up_slot (by decide)).trans ((w_up_slot (by decide)).trans ((w_up_slot (by decide)).trans ((w_up_slot (by decide)).trans (((tr14.2.2.2.1 231 (c - 1) (by decide) (by decide) (by decide) (Or.inl (by decide))).trans (bp))))))) ((((w_up_slot (by decide)).trans ((w_up_slot (by decide)).trans ((w_up_slot (by decide)).trans ((w_up_slot (by decide)).trans (((tr14.2.2.2.1 229 (-1) (by decide) (by decide) (by decide) (Or.inl (by decide))).trans (bl1)))))))).trans (((w_up_slot (by decide)).trans ((w_up_slot (by decide)).trans ((w_up_slot (by decide)).trans ((w_up_slot (by decide)).trans (((tr14.2.2.2.1 228 (-1) (by decide) (by decide) (by decide) (Or.inl (by decide))).trans (rfl)))))))).symm) (by have e : (w_up (w_up (w_up (w_up Sq14 158 16 0) 158 17 0) 158 16 vk) 158 17 vb) 228 (-1) = S 228 (-1) := ((w_up_slot (by decide)).trans ((w_up_slot (by decide)).trans ((w_up_slot (by decide)).trans ((w_up_slot (by decide)).trans (((tr14.2.2.2.1 228 (-1) (by decide) (by decide) (by decide) (Or.inl (by decide))).trans (rfl))))))); rw [e]; exact ⟨bl2, bl3⟩) (by have e : (w_up (w_up (w_up (w_up Sq14 158 16 0) 158 17 0) 158 16 vk) 158 17 vb) 228 (-1) = S 228 (-1) := ((w_up_slot (by decide)).trans ((w_up_slot (by decide)).trans ((w_up_slot (by decide)).trans ((w_up_slot (by decide)).trans (((tr14.2.2.2.1 228 (-1) (by decide) (by decide) (by decide) (Or.inl (by decide))).trans (rfl))))))); omega) ⟨by omega, by omega⟩ ⟨by omega, by omega⟩ ⟨by omega, by omega⟩ ⟨by omega, by omega⟩) (fun oq26 Sq26 hp27 q26 => ?_)
                      rcases q26 with ⟨rfl, hgv26⟩
                      show wJ _ _ _ _ _ _ _ _ _ _
                      refine wa_return rfl ?_
                      refine ⟨rfl, Or.inr ⟨by omega, Sq14, (w_up (w_up (w_up (w_up Sq14 158 16 0) 158 17 0) 158 16 vk) 158 17 vb), tr14, ?_, ?_⟩⟩
                      · exact fun j i hji => (w_up_no (by omega)).trans ((w_up_no (by omega)).trans ((w_up_no (by omega)).trans ((w_up_no (by omega)).trans (rfl))))
                      · first | (rw [if_pos (show kd = 1 by omega), if_pos (show kd = 1 by omega)]; exact hgv26) | (rw [if_neg (show ¬ kd = 1 by omega), if_neg (show ¬ kd = 1 by omega)]; exact hgv26)
                    · skip
                      refine wa_aload_n (n := 0) rfl ?_
                      refine wa_aload_n (n := 0) rfl ?_
                      refine wb_gf5 158 rfl (wy_pr rfl) wt_158 wf_5_5 (v := 227) ((w_up_at (by decide)).trans ((w_up_at (by decide)).trans ((w_up_at (by decide)).trans ((w_up_at (by decide)).trans (((tr14.2.2.2.1 158 5 (by decide) (by decide) (by decide) (Or.inl (by decide))).trans (l5))))))) (fun r28 => ?_)
                      refine wb_gf4 227 rfl (wy_pr rfl) wt_227 wf_7_0 (v := 228) wl_227_0 ?_
                      refine wa_aload_n (n := 0) rfl ?_
                      refine wb_gf5 158 rfl (wy_pr rfl) wt_158 wf_5_5 (v := 227) ((w_up_at (by decide)).trans ((w_up_at (by decide)).trans ((w_up_at (by decide)).trans ((w_up_at (by decide)).trans (((tr14.2.2.2.1 158 5 (by decide) (by decide) (by decide) (Or.inl (by decide))).trans (l5))))))) (fun r29 => ?_)
                      refine wb_gfi 227 rfl (wy_pr rfl) wt_227 wf_7_2 (v := h) ((w_up_slot (by decide)).trans ((w_up_slot (by decide)).trans ((w_up_slot (by decide)).trans ((w_up_slot (by decide)).trans (((tr14.2.2.2.1 227 2 (by decide) (by decide) (by decide) (Or.inl (by decide))).trans (bh))))))) (fun r30 => ?_)
                      refine wa_iconst ?_
                      refine wa_isub ?_
                      refine wb_bald 228 rfl (wy_pr rfl) wt_228 (n := (S 228 (-1))) ((w_up_slot (by decide)).trans ((w_up_slot (by decide)).trans ((w_up_slot (by decide)).trans ((w_up_slot (by decide)).trans (((tr14.2.2.2.1 228 (-1) (by decide) (by decide) (by decide) (Or.inl (by decide))).trans (rfl))))))) (by omega) (by omega) (v := ky) ((w_up_slot (by decide)).trans ((w_up_slot (by decide)).trans ((w_up_slot (by decide)).trans ((w_up_slot (by decide)).trans (((tr14.2.2.2.1 228 (h - 1) (by decide) (by decide) (by decide) (Or.inl (by decide))).trans (hky))))))) (fun r31 => ?_)
                      refine wb_pfi 158 rfl (wy_pr rfl) wt_158 wf_5_16 (n := 16) rfl ⟨(by omega), (by omega)⟩ ?_
                      refine wa_aload_n (n := 0) rfl ?_
                      refine wa_aload_n (n := 0) rfl ?_
                      refine wb_gf5 158 rfl (wy_pr rfl) wt_158 wf_5_5 (v := 227) ((w_up_at (by decide)).trans ((w_up_at (by decide)).trans ((w_up_at (by decide)).trans ((w_up_at (by decide)).trans ((w_up_at (by decide)).trans (((tr14.2.2.2.1 158 5 (by decide) (by decide) (by decide) (Or.inl (by decide))).trans (l5)))))))) (fun r32 => ?_)
                      refine wb_gf4 227 rfl (wy_pr rfl) wt_227 wf_7_1 (v := 229) wl_227_1 ?_
                      refine wa_aload_n (n := 0) rfl ?_
                      refine wb_gf5 158 rfl (wy_pr rfl) wt_158 wf_5_5 (v := 227) ((w_up_at (by decide)).trans ((w_up_at (by decide)).trans ((w_up_at (by decide)).trans ((w_up_at (by decide)).trans ((w_up_at (by decide)).trans (((tr14.2.2.2.1 158 5 (by decide) (by decide) (by decide) (Or.inl (by decide))).trans (l5)))))))) (fun r33 => ?_)
                      refine wb_gfi 227 rfl (wy_pr rfl) wt_227 wf_7_2 (v := h) ((w_up_slot (by decide)).trans ((w_up_slot (by decide)).trans ((w_up_slot (by decide)).trans ((w_up_slot (by decide)).trans ((w_up_slot (by decide)).trans (((tr14.2.2.2.1 227 2 (by decide) (by decide) (by decide) (Or.inl (by decide))).trans (bh)))))))) (fun r34 => ?_)
                      refine wa_iconst ?_
                      refine wa_isub ?_
                      refine wb_lald 229 rfl (wy_pr rfl) wt_229 (n := (S 228 (-1))) ((w_up_slot (by decide)).trans ((w_up_slot (by decide)).trans ((w_up_slot (by decide)).trans ((w_up_slot (by decide)).trans ((w_up_slot (by decide)).trans (((tr14.2.2.2.1 229 (-1) (by decide) (by decide) (by decide) (Or.inl (by decide))).trans (bl1)))))))) (by omega) (by omega) (v := vy) ((w_up_slot (by decide)).trans ((w_up_slot (by decide)).trans ((w_up_slot (by decide)).trans ((w_up_slot (by decide)).trans ((w_up_slot (by decide)).trans (((tr14.2.2.2.1 229 (h - 1) (by decide) (by decide) (by decide) (Or.inl (by decide))).trans (hvy)))))))) (fun r35 => ?_)
                      refine wb_pfl 158 rfl (wy_pr rfl) wt_158 wf_5_17 (n := 17) rfl ⟨(by omega), (by omega)⟩ ?_
                      refine wa_fall ⟨_, rfl⟩ ?_
                      refine wa_aload_n (n := 0) rfl ?_
                      refine wa_aload_n (n := 0) rfl ?_
                      refine wb_gfi 158 rfl (wy_pr rfl) wt_158 wf_5_16 (v := ky) ((w_up_at (by decide)).trans (w_up_same _ _ _ _)) (fun r36 => ?_)
                      refine wa_aload_n (n := 0) rfl ?_
                      refine wb_gfl 158 rfl (wy_pr rfl) wt_158 wf_5_17 (v := vy) (w_up_same _ _ _ _) (fun r37 => ?_)
                      refine wa_cv 158 rfl (wy_pr rfl) wt_158 (M2 := mS [228, 229]) rfl at_XL_giveValue ⟨_, rfl⟩ rfl rfl ⟨trivial, trivial, trivial, (Or.inr ⟨wy_pr rfl, mS_no rfl⟩), (Or.inr ⟨wy_pr rfl, mS_no rfl⟩), trivial, trivial⟩ trivial (fun _ _ q => mS_sub (by decide) q) (glx_226 (S := (w_up (w_up (w_up (w_up (w_up (w_up Sq14 158 16 0) 158 17 0) 158 16 vk) 158 17 vb) 158 16 ky) 158 17 vy)) (k := ky) (v := vy) (h := h) (c := c) (p := p) (ba := ba) (w_CL_up (w_CL_up (w_CL_up (w_CL_up (w_CL_up (w_CL_up (CL_tr hC tr14) (by omega)) (by omega)) (by omega)) (by omega)) (by omega)) (by omega)) (gI_up (gI_up (gI_up (gI_up (gI_up (gI_up tr14.2.2.2.2.2.1 (by omega) (by omega) (by omega)) (by omega) (by omega) (by omega)) (by omega) (by omega) (by omega)) (by omega) (by omega) (by omega)) (by omega) (by omega) (by omega)) (by omega) (by omega) (by omega)) ((w_up_at (by decide)).trans ((w_up_at (by decide)).trans ((w_up_at (by decide)).trans ((w_up_at (by decide)).trans ((w_up_at (by decide)).trans ((w_up_at (by decide)).trans (((tr14.2.2.2.1 158 4 (by decide) (by decide) (by decide) (Or.inl (by decide))).trans (l4))))))))) ((w_up_at (by decide)).trans ((w_up_at (by decide)).trans ((w_up_at (by decide)).trans ((w_up_at (by decide)).trans ((w_up_at (by decide)).trans ((w_up_at (by decide)).trans (((tr14.2.2.2.1 158 5 (by decide) (by decide) (by decide) (Or.inl (by decide))).trans (l5))))))))) ((w_up_at (by decide)).trans ((w_up_at (by decide)).trans ((w_up_at (by decide)).trans ((w_up_at (by decide)).trans ((w_up_at (by decide)).trans ((w_up_at (by decide)).trans (((tr14.2.2.2.1 158 8 (by decide) (by decide) (by decide) (Or.inl (by decide))).trans (l8))))))))) ((w_up_slot (by decide)).trans ((w_up_slot (by decide)).trans ((w_up_slot (by decide)).trans ((w_up_slot (by decide)).trans ((w_up_slot (by decide)).trans ((w_up_slot (by decide)).trans (((tr14.2.2.2.1 226 4 (by decide) (by decide) (by decide) (Or.inl (by decide))).trans (bc))))))))) ((w_up_slot (by decide)).trans ((w_up_slot (by decide)).trans ((w_up_slot (by decide)).trans ((w_up_slot (by decide)).trans ((w_up_slot (by decide)).trans ((w_up_slot (by decide)).trans (((tr14.2.2.2.1 231 (c - 1) (by decide) (by decide) (by decide) (Or.inl (by decide))).trans (bp))))))))) ((((w_up_slot (by decide)).trans ((w_up_slot (by decide)).trans ((w_up_slot (by decide)).trans ((w_up_slot (by decide)).trans ((w_up_slot (by decide)).trans ((w_up_slot (by decide)).trans (((tr14.2.2.2.1 229 (-1) (by decide) (by decide) (by decide) (Or.inl (by decide))).trans (bl1)))))))))).trans (((w_up_slot (by decide)).trans ((w_up_slot (by decide)).trans ((w_up_slot (by decide)).trans ((w_up_slot (by decide)).trans ((w_up_slot (by decide)).trans ((w_up_slot (by decide)).trans (((tr14.2.2.2.1 228 (-1) (by decide) (by decide) (by decide) (Or.inl (by decide))).trans (rfl)))))))))).symm) (by have e : (w_up (w_up (w_up (w_up (w_up (w_up Sq14 158 16 0) 158 17 0) 158 16 vk) 158 17 vb) 158 16 ky) 158 17 vy) 228 (-1) = S 228 (-1) := ((w_up_slot (by decide)).trans ((w_up_slot (by decide)).trans ((w_up_slot (by decide)).trans ((w_up_slot (by decide)).trans ((w_up_slot (by decide)).trans ((w_up_slot (by decide)).trans (((tr14.2.2.2.1 228 (-1) (by decide) (by decide) (by decide) (Or.inl (by decide))).trans (rfl))))))))); rw [e]; exact ⟨bl2, bl3⟩) (by have e : (w_up (w_up (w_up (w_up (w_up (w_up Sq14 158 16 0) 158 17 0) 158 16 vk) 158 17 vb) 158 16 ky) 158 17 vy) 228 (-1) = S 228 (-1) := ((w_up_slot (by decide)).trans ((w_up_slot (by decide)).trans ((w_up_slot (by decide)).trans ((w_up_slot (by decide)).trans ((w_up_slot (by decide)).trans ((w_up_slot (by decide)).trans (((tr14.2.2.2.1 228 (-1) (by decide) (by decide) (by decide) (Or.inl (by decide))).trans (rfl))))))))); omega) ⟨by omega, by omega⟩ ⟨by omega, by omega⟩ ⟨by omega, by omega⟩ ⟨by omega, by omega⟩) (fun oq38 Sq38 hp39 q38 => ?_)
                      rcases q38 with ⟨rfl, hgv38⟩
                      show wJ _ _ _ _ _ _ _ _ _ _
                      refine wa_return rfl ?_
                      refine ⟨rfl, Or.inr ⟨by omega, Sq14, (w_up (w_up (w_up (w_up (w_up (w_up Sq14 158 16 0) 158 17 0) 158 16 vk) 158 17 vb) 158 16 ky) 158 17 vy), tr14, ?_, ?_⟩⟩
                      · exact fun j i hji => (w_up_no (by omega)).trans ((w_up_no (by omega)).trans ((w_up_no (by omega)).trans ((w_up_no (by omega)).trans ((w_up_no (by omega)).trans ((w_up_no (by omega)).trans (rfl))))))
                      · first | (rw [if_pos (show kd = 1 by omega), if_pos (show kd = 1 by omega)]; exact hgv38) | (rw [if_neg (show ¬ kd = 1 by omega), if_neg (show ¬ kd = 1 by omega)]; exact hgv38)
                · skip
                  exact absurd c16 (by omega)
              · skip
                exact absurd c12 (by omega)
            · skip
              exact absurd c11 (by omega)
        · skip
          exact absurd c7 (by omega)
      · skip
        refine wa_aload_n (n := 2) rfl ?_
        refine wb_gf4 73 rfl (wy_pr rfl) wt_73 wf_3_3 (v := 96) wl_73_3 ?_
        refine wa_bipush (w_rg2 (by omega) (by omega)) ?_
        refine wb_aald5 96 15 rfl rfl (wy_pr rfl) wt_96 (by rw [show _ = _ from ((cl_96 hC))]; omega) wl_96_15 ?_
        refine wa_iload_n (n := 1) rfl ?_
        refine wb_iald 112 rfl (wy_pr rfl) wt_112 (n := 400) ((cl_112 hC)) (by omega) (by omega) (v := fl) (hmf) (fun r40 => ?_)
        refine wa_iconst ?_
        refine wa_icmpne (w_rg0 (by omega) (by omega)) (w_rg0 (by omega) (by omega)) ⟨_, rfl⟩ (fun c41 => ?_) (fun c41 => ?_)
        · skip
          refine wa_iconst ?_
          refine wa_fall ⟨_, rfl⟩ ?_
          refine wa_istore (n := 4) rfl ?_
          refine wa_iload_n (n := 3) rfl ?_
          refine wa_ifeq (w_rg0 (by omega) (by omega)) ⟨_, rfl⟩ (fun c42 => ?_) (fun c42 => ?_)
          · skip
            refine wa_iconst ?_
            refine wa_fall ⟨_, rfl⟩ ?_
            refine wa_istore (n := 5) rfl ?_
            refine wa_aload_n (n := 0) rfl ?_
            refine wb_gf4 158 rfl (wy_pr rfl) wt_158 wf_5_0 (v := 72) wl_158_0 ?_
            refine wb_gfi 72 rfl (wy_pr rfl) wt_72 wf_2_15 (v := tn) (ht15) (fun r43 => ?_)
            refine wa_iconst ?_
            refine wa_iadd ?_
            refine wb_ki (n := 100000) rfl ?_
            refine wa_icmpgt (w_rg0 (by omega) (by omega)) (w_rg0 (by omega) (by omega)) ⟨_, rfl⟩ (fun c44 => ?_) (fun c44 => ?_)
            · skip
              refine wa_aload_n (n := 0) rfl ?_
              refine wb_gf5 158 rfl (wy_pr rfl) wt_158 wf_5_4 (v := 226) (l4) (fun r45 => ?_)
              refine wa_bipush (w_rg2 (by omega) (by omega)) ?_
              refine wb_pfi 226 rfl (wy_pr rfl) wt_226 wf_8_16 (n := 16) rfl ⟨(by omega), (by omega)⟩ ?_
              refine wa_return rfl ?_
              exact ⟨rfl, Or.inl ⟨by omega, rfl⟩⟩
            · skip
              refine wa_iload_n (n := 3) rfl ?_
              refine wa_ifeq (w_rg0 (by omega) (by omega)) ⟨_, rfl⟩ (fun c46 => ?_) (fun c46 => ?_)
              · skip
                refine wa_iload (n := 4) rfl ?_
                refine wa_ifeq (w_rg0 (by omega) (by omega)) ⟨_, rfl⟩ (fun c47 => ?_) (fun c47 => ?_)
                · skip
                  refine wa_aload_n (n := 0) rfl ?_
                  refine wb_gf4 158 rfl (wy_pr rfl) wt_158 wf_5_0 (v := 72) wl_158_0 ?_
                  refine wa_iload_n (n := 1) rfl ?_
                  refine wa_aload_n (n := 0) rfl ?_
                  refine wb_gfi 158 rfl (wy_pr rfl) wt_158 wf_5_12 (v := en) (l12) (fun r48 => ?_)
                  refine wa_cv 72 rfl (wy_pr rfl) wt_72 (M2 := mS [152]) rfl at_XH_addTrace ⟨_, rfl⟩ rfl rfl ⟨trivial, trivial, trivial, (Or.inr ⟨wy_pr rfl, mS_no rfl⟩), (Or.inr ⟨wy_pr rfl, mS_no rfl⟩), trivial, trivial⟩ trivial (fun _ _ q => mS_sub (by decide) q) (tra (S := S) (m := m) (k := en) hI ⟨by omega, by omega⟩ ⟨by omega, by omega⟩ (by rw [ht15]; exact ht0) (by rw [ht15]; exact ht9)) (fun oq49 Sq49 hp50 q49 => ?_)
                  rcases q49 with ⟨rfl, tr49⟩
                  show wJ _ _ _ _ _ _ _ _ _ _
                  refine wa_aload_n (n := 0) rfl ?_
                  refine wa_iconst ?_
                  refine wb_pfi 158 rfl (wy_pr rfl) wt_158 wf_5_16 (n := 16) rfl ⟨(by omega), (by omega)⟩ ?_
                  refine wa_aload_n (n := 0) rfl ?_
                  refine wb_lconst (m := 0) rfl ?_
                  refine wb_pfl 158 rfl (wy_pr rfl) wt_158 wf_5_17 (n := 17) rfl ⟨(by omega), (by omega)⟩ ?_
                  refine wa_iload_n (n := 3) rfl ?_
                  refine wa_ifeq (w_rg0 (by omega) (by omega)) ⟨_, rfl⟩ (fun c51 => ?_) (fun c51 => ?_)
                  · skip
                    refine wa_aload_n (n := 2) rfl ?_
                    refine wb_gf4 73 rfl (wy_pr rfl) wt_73 wf_3_3 (v := 96) wl_73_3 ?_
                    refine wa_bipush (w_rg2 (by omega) (by omega)) ?_
                    refine wb_aald5 96 15 rfl rfl (wy_pr rfl) wt_96 (by rw [show _ = _ from ((w_up_slot (by decide)).trans ((w_up_slot (by decide)).trans (((tr49.2.2.2.1 96 (-1) (by decide) (by decide) (by decide) (Or.inl (by decide))).trans ((cl_96 hC))))))]; omega) wl_96_15 ?_
                    refine wa_iload_n (n := 1) rfl ?_
                    refine wb_iald 112 rfl (wy_pr rfl) wt_112 (n := 400) ((w_up_slot (by decide)).trans ((w_up_slot (by decide)).trans (((tr49.2.2.2.1 112 (-1) (by decide) (by decide) (by decide) (Or.inl (by decide))).trans ((cl_112 hC)))))) (by omega) (by omega) (v := fl) ((w_up_slot (by decide)).trans ((w_up_slot (by decide)).trans (((tr49.2.2.2.1 112 m (by decide) (by decide) (by decide) (Or.inl (by decide))).trans (hmf))))) (fun r52 => ?_)
                    refine wa_iconst ?_
                    refine wa_icmpeq (w_rg0 (by omega) (by omega)) (w_rg0 (by omega) (by omega)) ⟨_, rfl⟩ (fun c53 => ?_) (fun c53 => ?_)
                    · skip
                      exact absurd c53 (by omega)
                    · skip
                      refine wa_aload_n (n := 0) rfl ?_
                      refine wa_iload_n (n := 1) rfl ?_
                      refine wa_aload_n (n := 2) rfl ?_
                      refine wb_gf4 73 rfl (wy_pr rfl) wt_73 wf_3_3 (v := 96) wl_73_3 ?_
                      refine wa_bipush (w_rg2 (by omega) (by omega)) ?_
                      refine wb_aald5 96 15 rfl rfl (wy_pr rfl) wt_96 (by rw [show _ = _ from ((w_up_slot (by decide)).trans ((w_up_slot (by decide)).trans (((tr49.2.2.2.1 96 (-1) (by decide) (by decide) (by decide) (Or.inl (by decide))).trans ((cl_96 hC))))))]; omega) wl_96_15 ?_
                      refine wa_iload_n (n := 1) rfl ?_
                      refine wb_iald 112 rfl (wy_pr rfl) wt_112 (n := 400) ((w_up_slot (by decide)).trans ((w_up_slot (by decide)).trans (((tr49.2.2.2.1 112 (-1) (by decide) (by decide) (by decide) (Or.inl (by decide))).trans ((cl_112 hC)))))) (by omega) (by omega) (v := fl) ((w_up_slot (by decide)).trans ((w_up_slot (by decide)).trans (((tr49.2.2.2.1 112 m (by decide) (by decide) (by decide) (Or.inl (by decide))).trans (hmf))))) (fun r54 => ?_)
                      have hf2 : ∀ (j : Nat) (i : Int), j < 4000000 → j ≠ wG → j ≠ 152 → j ≠ 72 → j ≠ 158 → (w_up (w_up Sq49 158 16 0) 158 17 0) j i = S j i := fun j i a b c d e => (w_up_no (fun z => e z.1)).trans ((w_up_no (fun z => e z.1)).trans (tr49.2.2.2.1 j i a b c (Or.inl d)))
                      have el : (w_up (w_up Sq49 158 16 0) 158 17 0) 117 (-1) = S 117 (-1) := (hf2 117 _ (by first | decide | omega) (by first | decide | omega) (by first | decide | omega) (by first | decide | omega) (by first | decide | omega))
                      have el2 : (w_up (w_up Sq49 158 16 0) 158 17 0) 118 (-1) = S 118 (-1) := (hf2 118 _ (by first | decide | omega) (by first | decide | omega) (by first | decide | omega) (by first | decide | omega) (by first | decide | omega))
                      refine wa_cv 158 rfl (wy_pr rfl) wt_158 (M2 := fun _ => False) rfl at_XL_useField ⟨_, rfl⟩ rfl rfl ⟨trivial, trivial, trivial, (Or.inr ⟨wy_pr rfl, fun q => q⟩), (Or.inr ⟨wy_pr rfl, fun q => q⟩), trivial, trivial⟩ trivial (fun _ _ q => False.elim q) (usg1_73_226 (S := (w_up (w_up Sq49 158 16 0) 158 17 0)) (m := m) (f := fl) (w_CL_up (w_CL_up (CL_tr hC tr49) (by omega)) (by omega)) ((w_up_slot (by decide)).trans ((w_up_slot (by decide)).trans (((tr49.2.2.2.1 72 1 (by decide) (by decide) (by decide) (Or.inr (by decide))).trans (h72))))) ((w_up_at (by decide)).trans ((w_up_at (by decide)).trans (((tr49.2.2.2.1 158 5 (by decide) (by decide) (by decide) (Or.inl (by decide))).trans (l5))))) ((w_up_at (by decide)).trans ((w_up_at (by decide)).trans (((tr49.2.2.2.1 158 8 (by decide) (by decide) (by decide) (Or.inl (by decide))).trans (l8))))) (((w_up_at (by decide)).trans ((w_up_at (by decide)).trans ((tr49.2.2.2.1 158 10 (by decide) (by decide) (by decide) (Or.inl (by decide)))))).trans l10) hm hfl ((hf2 99 _ (by decide) (by decide) (by decide) (by decide) (by decide)).trans hstt) ((hf2 112 _ (by decide) (by decide) (by decide) (by decide) (by decide)).trans hfi) (by rw [el, el2]; exact hrl) (by rw [el]; exact hrb) ((hf2 101 _ (by decide) (by decide) (by decide) (by decide) (by decide)).trans hmc) ((hf2 117 _ (by decide) (by decide) (by decide) (by decide) (by decide)).trans hvk) ((hf2 118 _ (by decide) (by decide) (by decide) (by decide) (by decide)).trans hvb)) (fun oq55 Sq55 hp56 q55 => ?_)
                      rcases q55 with ⟨rfl, rfl⟩
                      show wJ _ _ _ _ _ _ _ _ _ _
                      refine wa_goto ⟨_, rfl⟩ ?_
                      refine wa_aload_n (n := 0) rfl ?_
                      refine wb_gfi 158 rfl (wy_pr rfl) wt_158 wf_5_7 (v := kd) ((w_up_at (by decide)).trans ((w_up_at (by decide)).trans ((w_up_at (by decide)).trans ((w_up_at (by decide)).trans (((tr49.2.2.2.1 158 7 (by decide) (by decide) (by decide) (Or.inl (by decide))).trans (l7))))))) (fun r57 => ?_)
                      refine wa_iconst ?_
                      refine wa_icmpne (w_rg0 (by omega) (by omega)) (w_rg0 (by omega) (by omega)) ⟨_, rfl⟩ (fun c58 => ?_) (fun c58 => ?_)
                      · skip
                        refine wa_aload_n (n := 0) rfl ?_
                        refine wa_aload_n (n := 0) rfl ?_
                        refine wb_gfi 158 rfl (wy_pr rfl) wt_158 wf_5_16 (v := vk) ((w_up_at (by decide)).trans (w_up_same _ _ _ _)) (fun r59 => ?_)
                        refine wa_aload_n (n := 0) rfl ?_
                        refine wb_gfl 158 rfl (wy_pr rfl) wt_158 wf_5_17 (v := vb) (w_up_same _ _ _ _) (fun r60 => ?_)
                        refine wa_cv 158 rfl (wy_pr rfl) wt_158 (M2 := mS [228, 229]) rfl at_XL_giveValue ⟨_, rfl⟩ rfl rfl ⟨trivial, trivial, trivial, (Or.inr ⟨wy_pr rfl, mS_no rfl⟩), (Or.inr ⟨wy_pr rfl, mS_no rfl⟩), trivial, trivial⟩ trivial (fun _ _ q => mS_sub (by decide) q) (glx_226 (S := (w_up (w_up (w_up (w_up Sq49 158 16 0) 158 17 0) 158 16 vk) 158 17 vb)) (k := vk) (v := vb) (h := h) (c := c) (p := p) (ba := ba) (w_CL_up (w_CL_up (w_CL_up (w_CL_up (CL_tr hC tr49) (by omega)) (by omega)) (by omega)) (by omega)) (gI_up (gI_up (gI_up (gI_up tr49.2.2.2.2.2.1 (by omega) (by omega) (by omega)) (by omega) (by omega) (by omega)) (by omega) (by omega) (by omega)) (by omega) (by omega) (by omega)) ((w_up_at (by decide)).trans ((w_up_at (by decide)).trans ((w_up_at (by decide)).trans ((w_up_at (by decide)).trans (((tr49.2.2.2.1 158 4 (by decide) (by decide) (by decide) (Or.inl (by decide))).trans (l4))))))) ((w_up_at (by decide)).trans ((w_up_at (by decide)).trans ((w_up_at (by decide)).trans ((w_up_at (by decide)).trans (((tr49.2.2.2.1 158 5 (by decide) (by decide) (by decide) (Or.inl (by decide))).trans (l5))))))) ((w_up_at (by decide)).trans ((w_up_at (by decide)).trans ((w_up_at (by decide)).trans ((w_up_at (by decide)).trans (((tr49.2.2.2.1 158 8 (by decide) (by decide) (by decide) (Or.inl (by decide))).trans (l8))))))) ((w_up_slot (by decide)).trans ((w_up_slot (by decide)).trans ((w_up_slot (by decide)).trans ((w_up_slot (by decide)).trans (((tr49.2.2.2.1 226 4 (by decide) (by decide) (by decide) (Or.inl (by decide))).trans (bc))))))) ((w_up_slot (by decide)).trans ((w_up_slot (by decide)).trans ((w_up_slot (by decide)).trans ((w_up_slot (by decide)).trans (((tr49.2.2.2.1 231 (c - 1) (by decide) (by decide) (by decide) (Or.inl (by decide))).trans (bp))))))) ((((w_up_slot (by decide)).trans ((w_up_slot (by decide)).trans ((w_up_slot (by decide)).trans ((w_up_slot (by decide)).trans (((tr49.2.2.2.1 229 (-1) (by decide) (by decide) (by decide) (Or.inl (by decide))).trans (bl1)))))))).trans (((w_up_slot (by decide)).trans ((w_up_slot (by decide)).trans ((w_up_slot (by decide)).trans ((w_up_slot (by decide)).trans (((tr49.2.2.2.1 228 (-1) (by decide) (by decide) (by decide) (Or.inl (by decide))).trans (rfl)))))))).symm) (by have e : (w_up (w_up (w_up (w_up Sq49 158 16 0) 158 17 0) 158 16 vk) 158 17 vb) 228 (-1) = S 228 (-1) := ((w_up_slot (by decide)).trans ((w_up_slot (by decide)).trans ((w_up_slot (by decide)).trans ((w_up_slot (by decide)).trans (((tr49.2.2.2.1 228 (-1) (by decide) (by decide) (by decide) (Or.inl (by decide))).trans (rfl))))))); rw [e]; exact ⟨bl2, bl3⟩) (by have e : (w_up (w_up (w_up (w_up Sq49 158 16 0) 158 17 0) 158 16 vk) 158 17 vb) 228 (-1) = S 228 (-1) := ((w_up_slot (by decide)).trans ((w_up_slot (by decide)).trans ((w_up_slot (by decide)).trans ((w_up_slot (by decide)).trans (((tr49.2.2.2.1 228 (-1) (by decide) (by decide) (by decide) (Or.inl (by decide))).trans (rfl))))))); omega) ⟨by omega, by omega⟩ ⟨by omega, by omega⟩ ⟨by omega, by omega⟩ ⟨by omega, by omega⟩) (fun oq61 Sq61 hp62 q61 => ?_)
                        rcases q61 with ⟨rfl, hgv61⟩
                        show wJ _ _ _ _ _ _ _ _ _ _
                        refine wa_return rfl ?_
                        refine ⟨rfl, Or.inr ⟨by omega, Sq49, (w_up (w_up (w_up (w_up Sq49 158 16 0) 158 17 0) 158 16 vk) 158 17 vb), tr49, ?_, ?_⟩⟩
                        · exact fun j i hji => (w_up_no (by omega)).trans ((w_up_no (by omega)).trans ((w_up_no (by omega)).trans ((w_up_no (by omega)).trans (rfl))))
                        · first | (rw [if_pos (show kd = 1 by omega), if_pos (show kd = 1 by omega)]; exact hgv61) | (rw [if_neg (show ¬ kd = 1 by omega), if_neg (show ¬ kd = 1 by omega)]; exact hgv61)
                      · skip
                        refine wa_aload_n (n := 0) rfl ?_
                        refine wa_aload_n (n := 0) rfl ?_
                        refine wb_gf5 158 rfl (wy_pr rfl) wt_158 wf_5_5 (v := 227) ((w_up_at (by decide)).trans ((w_up_at (by decide)).trans ((w_up_at (by decide)).trans ((w_up_at (by decide)).trans (((tr49.2.2.2.1 158 5 (by decide) (by decide) (by decide) (Or.inl (by decide))).trans (l5))))))) (fun r63 => ?_)
                        refine wb_gf4 227 rfl (wy_pr rfl) wt_227 wf_7_0 (v := 228) wl_227_0 ?_
                        refine wa_aload_n (n := 0) rfl ?_
                        refine wb_gf5 158 rfl (wy_pr rfl) wt_158 wf_5_5 (v := 227) ((w_up_at (by decide)).trans ((w_up_at (by decide)).trans ((w_up_at (by decide)).trans ((w_up_at (by decide)).trans (((tr49.2.2.2.1 158 5 (by decide) (by decide) (by decide) (Or.inl (by decide))).trans (l5))))))) (fun r64 => ?_)
                        refine wb_gfi 227 rfl (wy_pr rfl) wt_227 wf_7_2 (v := h) ((w_up_slot (by decide)).trans ((w_up_slot (by decide)).trans ((w_up_slot (by decide)).trans ((w_up_slot (by decide)).trans (((tr49.2.2.2.1 227 2 (by decide) (by decide) (by decide) (Or.inl (by decide))).trans (bh))))))) (fun r65 => ?_)
                        refine wa_iconst ?_
                        refine wa_isub ?_
                        refine wb_bald 228 rfl (wy_pr rfl) wt_228 (n := (S 228 (-1))) ((w_up_slot (by decide)).trans ((w_up_slot (by decide)).trans ((w_up_slot (by decide)).trans ((w_up_slot (by decide)).trans (((tr49.2.2.2.1 228 (-1) (by decide) (by decide) (by decide) (Or.inl (by decide))).trans (rfl))))))) (by omega) (by omega) (v := ky) ((w_up_slot (by decide)).trans ((w_up_slot (by decide)).trans ((w_up_slot (by decide)).trans ((w_up_slot (by decide)).trans (((tr49.2.2.2.1 228 (h - 1) (by decide) (by decide) (by decide) (Or.inl (by decide))).trans (hky))))))) (fun r66 => ?_)
                        refine wb_pfi 158 rfl (wy_pr rfl) wt_158 wf_5_16 (n := 16) rfl ⟨(by omega), (by omega)⟩ ?_
                        refine wa_aload_n (n := 0) rfl ?_
                        refine wa_aload_n (n := 0) rfl ?_
                        refine wb_gf5 158 rfl (wy_pr rfl) wt_158 wf_5_5 (v := 227) ((w_up_at (by decide)).trans ((w_up_at (by decide)).trans ((w_up_at (by decide)).trans ((w_up_at (by decide)).trans ((w_up_at (by decide)).trans (((tr49.2.2.2.1 158 5 (by decide) (by decide) (by decide) (Or.inl (by decide))).trans (l5)))))))) (fun r67 => ?_)
                        refine wb_gf4 227 rfl (wy_pr rfl) wt_227 wf_7_1 (v := 229) wl_227_1 ?_
                        refine wa_aload_n (n := 0) rfl ?_
                        refine wb_gf5 158 rfl (wy_pr rfl) wt_158 wf_5_5 (v := 227) ((w_up_at (by decide)).trans ((w_up_at (by decide)).trans ((w_up_at (by decide)).trans ((w_up_at (by decide)).trans ((w_up_at (by decide)).trans (((tr49.2.2.2.1 158 5 (by decide) (by decide) (by decide) (Or.inl (by decide))).trans (l5)))))))) (fun r68 => ?_)
                        refine wb_gfi 227 rfl (wy_pr rfl) wt_227 wf_7_2 (v := h) ((w_up_slot (by decide)).trans ((w_up_slot (by decide)).trans ((w_up_slot (by decide)).trans ((w_up_slot (by decide)).trans ((w_up_slot (by decide)).trans (((tr49.2.2.2.1 227 2 (by decide) (by decide) (by decide) (Or.inl (by decide))).trans (bh)))))))) (fun r69 => ?_)
                        refine wa_iconst ?_
                        refine wa_isub ?_
                        refine wb_lald 229 rfl (wy_pr rfl) wt_229 (n := (S 228 (-1))) ((w_up_slot (by decide)).trans ((w_up_slot (by decide)).trans ((w_up_slot (by decide)).trans ((w_up_slot (by decide)).trans ((w_up_slot (by decide)).trans (((tr49.2.2.2.1 229 (-1) (by decide) (by decide) (by decide) (Or.inl (by decide))).trans (bl1)))))))) (by omega) (by omega) (v := vy) ((w_up_slot (by decide)).trans ((w_up_slot (by decide)).trans ((w_up_slot (by decide)).trans ((w_up_slot (by decide)).trans ((w_up_slot (by decide)).trans (((tr49.2.2.2.1 229 (h - 1) (by decide) (by decide) (by decide) (Or.inl (by decide))).trans (hvy)))))))) (fun r70 => ?_)
                        refine wb_pfl 158 rfl (wy_pr rfl) wt_158 wf_5_17 (n := 17) rfl ⟨(by omega), (by omega)⟩ ?_
                        refine wa_fall ⟨_, rfl⟩ ?_
                        refine wa_aload_n (n := 0) rfl ?_
                        refine wa_aload_n (n := 0) rfl ?_
                        refine wb_gfi 158 rfl (wy_pr rfl) wt_158 wf_5_16 (v := ky) ((w_up_at (by decide)).trans (w_up_same _ _ _ _)) (fun r71 => ?_)
                        refine wa_aload_n (n := 0) rfl ?_
                        refine wb_gfl 158 rfl (wy_pr rfl) wt_158 wf_5_17 (v := vy) (w_up_same _ _ _ _) (fun r72 => ?_)
                        refine wa_cv 158 rfl (wy_pr rfl) wt_158 (M2 := mS [228, 229]) rfl at_XL_giveValue ⟨_, rfl⟩ rfl rfl ⟨trivial, trivial, trivial, (Or.inr ⟨wy_pr rfl, mS_no rfl⟩), (Or.inr ⟨wy_pr rfl, mS_no rfl⟩), trivial, trivial⟩ trivial (fun _ _ q => mS_sub (by decide) q) (glx_226 (S := (w_up (w_up (w_up (w_up (w_up (w_up Sq49 158 16 0) 158 17 0) 158 16 vk) 158 17 vb) 158 16 ky) 158 17 vy)) (k := ky) (v := vy) (h := h) (c := c) (p := p) (ba := ba) (w_CL_up (w_CL_up (w_CL_up (w_CL_up (w_CL_up (w_CL_up (CL_tr hC tr49) (by omega)) (by omega)) (by omega)) (by omega)) (by omega)) (by omega)) (gI_up (gI_up (gI_up (gI_up (gI_up (gI_up tr49.2.2.2.2.2.1 (by omega) (by omega) (by omega)) (by omega) (by omega) (by omega)) (by omega) (by omega) (by omega)) (by omega) (by omega) (by omega)) (by omega) (by omega) (by omega)) (by omega) (by omega) (by omega)) ((w_up_at (by decide)).trans ((w_up_at (by decide)).trans ((w_up_at (by decide)).trans ((w_up_at (by decide)).trans ((w_up_at (by decide)).trans ((w_up_at (by decide)).trans (((tr49.2.2.2.1 158 4 (by decide) (by decide) (by decide) (Or.inl (by decide))).trans (l4))))))))) ((w_up_at (by decide)).trans ((w_up_at (by decide)).trans ((w_up_at (by decide)).trans ((w_up_at (by decide)).trans ((w_up_at (by decide)).trans ((w_up_at (by decide)).trans (((tr49.2.2.2.1 158 5 (by decide) (by decide) (by decide) (Or.inl (by decide))).trans (l5))))))))) ((w_up_at (by decide)).trans ((w_up_at (by decide)).trans ((w_up_at (by decide)).trans ((w_up_at (by decide)).trans ((w_up_at (by decide)).trans ((w_up_at (by decide)).trans (((tr49.2.2.2.1 158 8 (by decide) (by decide) (by decide) (Or.inl (by decide))).trans (l8))))))))) ((w_up_slot (by decide)).trans ((w_up_slot (by decide)).trans ((w_up_slot (by decide)).trans ((w_up_slot (by decide)).trans ((w_up_slot (by decide)).trans ((w_up_slot (by decide)).trans (((tr49.2.2.2.1 226 4 (by decide) (by decide) (by decide) (Or.inl (by decide))).trans (bc))))))))) ((w_up_slot (by decide)).trans ((w_up_slot (by decide)).trans ((w_up_slot (by decide)).trans ((w_up_slot (by decide)).trans ((w_up_slot (by decide)).trans ((w_up_slot (by decide)).trans (((tr49.2.2.2.1 231 (c - 1) (by decide) (by decide) (by decide) (Or.inl (by decide))).trans (bp))))))))) ((((w_up_slot (by decide)).trans ((w_up_slot (by decide)).trans ((w_up_slot (by decide)).trans ((w_up_slot (by decide)).trans ((w_up_slot (by decide)).trans ((w_up_slot (by decide)).trans (((tr49.2.2.2.1 229 (-1) (by decide) (by decide) (by decide) (Or.inl (by decide))).trans (bl1)))))))))).trans (((w_up_slot (by decide)).trans ((w_up_slot (by decide)).trans ((w_up_slot (by decide)).trans ((w_up_slot (by decide)).trans ((w_up_slot (by decide)).trans ((w_up_slot (by decide)).trans (((tr49.2.2.2.1 228 (-1) (by decide) (by decide) (by decide) (Or.inl (by decide))).trans (rfl)))))))))).symm) (by have e : (w_up (w_up (w_up (w_up (w_up (w_up Sq49 158 16 0) 158 17 0) 158 16 vk) 158 17 vb) 158 16 ky) 158 17 vy) 228 (-1) = S 228 (-1) := ((w_up_slot (by decide)).trans ((w_up_slot (by decide)).trans ((w_up_slot (by decide)).trans ((w_up_slot (by decide)).trans ((w_up_slot (by decide)).trans ((w_up_slot (by decide)).trans (((tr49.2.2.2.1 228 (-1) (by decide) (by decide) (by decide) (Or.inl (by decide))).trans (rfl))))))))); rw [e]; exact ⟨bl2, bl3⟩) (by have e : (w_up (w_up (w_up (w_up (w_up (w_up Sq49 158 16 0) 158 17 0) 158 16 vk) 158 17 vb) 158 16 ky) 158 17 vy) 228 (-1) = S 228 (-1) := ((w_up_slot (by decide)).trans ((w_up_slot (by decide)).trans ((w_up_slot (by decide)).trans ((w_up_slot (by decide)).trans ((w_up_slot (by decide)).trans ((w_up_slot (by decide)).trans (((tr49.2.2.2.1 228 (-1) (by decide) (by decide) (by decide) (Or.inl (by decide))).trans (rfl))))))))); omega) ⟨by omega, by omega⟩ ⟨by omega, by omega⟩ ⟨by omega, by omega⟩ ⟨by omega, by omega⟩) (fun oq73 Sq73 hp74 q73 => ?_)
                        rcases q73 with ⟨rfl, hgv73⟩
                        show wJ _ _ _ _ _ _ _ _ _ _
                        refine wa_return rfl ?_
                        refine ⟨rfl, Or.inr ⟨by omega, Sq49, (w_up (w_up (w_up (w_up (w_up (w_up Sq49 158 16 0) 158 17 0) 158 16 vk) 158 17 vb) 158 16 ky) 158 17 vy), tr49, ?_, ?_⟩⟩
                        · exact fun j i hji => (w_up_no (by omega)).trans ((w_up_no (by omega)).trans ((w_up_no (by omega)).trans ((w_up_no (by omega)).trans ((w_up_no (by omega)).trans ((w_up_no (by omega)).trans (rfl))))))
                        · first | (rw [if_pos (show kd = 1 by omega), if_pos (show kd = 1 by omega)]; exact hgv73) | (rw [if_neg (show ¬ kd = 1 by omega), if_neg (show ¬ kd = 1 by omega)]; exact hgv73)
                  · skip
                    exact absurd c51 (by omega)
                · skip
                  exact absurd c47 (by omega)
              · skip
                exact absurd c46 (by omega)
          · skip
            exact absurd c42 (by omega)
        · skip
          exact absurd c41 (by omega)
  · skip
    exact absurd c3 (by omega)
set_option maxHeartbeats 4000000 in
theorem cms1_73_226 {c p h kd ba m en tn ky vy fl fi gb ty k1 v1 : Int} (hP : xP 226 c p h S) (l4 : S 158 4 = 226) (l5 : S 158 5 = 227) (l7 : S 158 7 = kd) (l8 : S 158 8 = ba) (l12 : S 158 12 = en) (hen : 0 ≤ en ∧ en ≤ 1000) (hba : 0 ≤ ba ∧ ba < h) (h72 : S 72 1 = 73) (hm : 0 ≤ m ∧ m < 400) (hso : S 98 m = 1) (ht15 : S 72 15 = tn) (ht0 : 0 ≤ tn ∧ tn ≤ S 152 (-1) ∧ tn ≤ 100000) (ht9 : 16 ≤ S 152 (-1) ∧ S 152 (-1) ≤ 131072 ∨ (16 ≤ S 152 (-1) ∧ S 152 (-1) ≤ 262143 ∧ tn + 2 ≤ S 152 (-1))) (hky : S 228 (h - 1) = ky) (hvy : S 229 (h - 1) = vy) (hkr : -128 ≤ ky ∧ ky ≤ 127) (hvr : -9223372036854775808 ≤ vy ∧ vy ≤ 9223372036854775807) (hmf : S 112 m = fl) (hfl : 0 ≤ fl ∧ fl < 400) (hstt : S 99 fl = 1) (hfi : S 112 fl = fi) (l10 : S 158 10 = gb) (hmt : S 100 m = ty) (hmc : S 101 m = 1) (hrl : S 118 (-1) = S 117 (-1)) (hrb : 0 ≤ fi ∧ fi < S 117 (-1) ∧ S 117 (-1) ≤ 8388608) (hb1 : ba + 1 < h) (hk1 : S 228 (ba + 1) = k1) (hv1 : S 229 (ba + 1) = v1) : wJ (pe_GA xs) wY0 (mS [228, 229, 152]) (d + 6) t_XL_callMember ((pe_at t_XL_callMember.bl 0).getD (0, [])).2 [(0, (2, 158)), (1, (0, m))] [] S (fun o Z => o = .inl none ∧ ((100000 < tn + 2 ∧ w_up S 226 16 99 = Z) ∨ (¬ (100000 < tn + 2) ∧ cmE 226 h c p (h - ba) kd ky vy 0 0 m en (fun A B => gvR (w_up (w_up A 117 fi k1) 118 fi v1) B) S Z))) := by
  obtain ⟨⟨hC, hI⟩, ⟨bc, bc0, bc1⟩, ⟨bp, bp0, bp1⟩, ⟨bh, bh0, bh1, bh2⟩, bl1, bl2, bl3⟩ := hP
  replace bp : S 231 (c - 1) = p := bp
  replace bh : S 227 2 = h := bh
  replace bh2 : h ≤ S 228 (-1) := bh2
  replace bl1 : S 229 (-1) = S 228 (-1) := bl1
  replace bl2 : 64 ≤ S 228 (-1) := bl2
  replace bl3 : S 228 (-1) ≤ 4095 := bl3
  refine wa_aload_n (n := 0) rfl ?_
  refine wb_gf4 158 rfl (wy_pr rfl) wt_158 wf_5_0 (v := 72) wl_158_0 ?_
  refine wb_gf5 72 rfl (wy_pr rfl) wt_72 wf_2_1 (v := 73) (h72) (fun r1 => ?_)
  refine wa_astore_n (n := 2) rfl ?_
  refine wa_aload_n (n := 2) rfl ?_
  refine wb_gf4 73 rfl (wy_pr rfl) wt_73 wf_3_3 (v := 96) wl_73_3 ?_
  refine wa_iconst ?_
  refine wb_aald5 96 1 rfl rfl (wy_pr rfl) wt_96 (by rw [show _ = _ from ((cl_96 hC))]; omega) wl_96_1 ?_
  refine wa_iload_n (n := 1) rfl ?_
  refine wb_iald 98 rfl (wy_pr rfl) wt_98 (n := 400) ((cl_98 hC)) (by omega) (by omega) (v := 1) (hso) (fun r2 => ?_)
  refine wa_iconst ?_
  refine wa_icmpne (w_rg0 (by omega) (by omega)) (w_rg0 (by omega) (by omega)) ⟨_, rfl⟩ (fun c3 => ?_) (fun c3 => ?_)
  · skip
    refine wa_iconst ?_
    refine wa_fall ⟨_, rfl⟩ ?_
    refine wa_istore_n (n := 3) rfl ?_
    refine wa_iload_n (n := 3) rfl ?_
    refine wa_ifne (w_rg0 (by omega) (by omega)) ⟨_, rfl⟩ (fun c4 => ?_) (fun c4 => ?_)
    · skip
      exact absurd c4 (by omega)
    · skip
      refine wa_aload_n (n := 2) rfl ?_
      refine wb_gf4 73 rfl (wy_pr rfl) wt_73 wf_3_3 (v := 96) wl_73_3 ?_
      refine wa_iconst ?_
      refine wb_aald5 96 3 rfl rfl (wy_pr rfl) wt_96 (by rw [show _ = _ from ((cl_96 hC))]; omega) wl_96_3 ?_
      refine wa_iload_n (n := 1) rfl ?_
      refine wb_iald 100 rfl (wy_pr rfl) wt_100 (n := 400) ((cl_100 hC)) (by omega) (by omega) (v := ty) (hmt) (fun r5 => ?_)
      refine wa_bipush (w_rg2 (by omega) (by omega)) ?_
      refine wa_icmpne (w_rg0 (by omega) (by omega)) (w_rg0 (by omega) (by omega)) ⟨_, rfl⟩ (fun c6 => ?_) (fun c6 => ?_)
      · skip
        refine wa_iconst ?_
        refine wa_fall ⟨_, rfl⟩ ?_
        refine wa_istore (n := 4) rfl ?_
        refine wa_iload_n (n := 3) rfl ?_
        refine wa_ifeq (w_rg0 (by omega) (by omega)) ⟨_, rfl⟩ (fun c7 => ?_) (fun c7 => ?_)
        · skip
          refine wa_iconst ?_
          refine wa_fall ⟨_, rfl⟩ ?_
          refine wa_istore (n := 5) rfl ?_
          refine wa_aload_n (n := 0) rfl ?_
          refine wb_gf4 158 rfl (wy_pr rfl) wt_158 wf_5_0 (v := 72) wl_158_0 ?_
          refine wb_gfi 72 rfl (wy_pr rfl) wt_72 wf_2_15 (v := tn) (ht15) (fun r8 => ?_)
          refine wa_iconst ?_
          refine wa_iadd ?_
          refine wb_ki (n := 100000) rfl ?_
          refine wa_icmpgt (w_rg0 (by omega) (by omega)) (w_rg0 (by omega) (by omega)) ⟨_, rfl⟩ (fun c9 => ?_) (fun c9 => ?_)
          · skip
            refine wa_aload_n (n := 0) rfl ?_
            refine wb_gf5 158 rfl (wy_pr rfl) wt_158 wf_5_4 (v := 226) (l4) (fun r10 => ?_)
            refine wa_bipush (w_rg2 (by omega) (by omega)) ?_
            refine wb_pfi 226 rfl (wy_pr rfl) wt_226 wf_8_16 (n := 16) rfl ⟨(by omega), (by omega)⟩ ?_
            refine wa_return rfl ?_
            exact ⟨rfl, Or.inl ⟨by omega, rfl⟩⟩
          · skip
            refine wa_iload_n (n := 3) rfl ?_
            refine wa_ifeq (w_rg0 (by omega) (by omega)) ⟨_, rfl⟩ (fun c11 => ?_) (fun c11 => ?_)
            · skip
              refine wa_iload (n := 4) rfl ?_
              refine wa_ifeq (w_rg0 (by omega) (by omega)) ⟨_, rfl⟩ (fun c12 => ?_) (fun c12 => ?_)
              · skip
                refine wa_aload_n (n := 0) rfl ?_
                refine wb_gf4 158 rfl (wy_pr rfl) wt_158 wf_5_0 (v := 72) wl_158_0 ?_
                refine wa_iload_n (n := 1) rfl ?_
                refine wa_aload_n (n := 0) rfl ?_
                refine wb_gfi 158 rfl (wy_pr rfl) wt_158 wf_5_12 (v := en) (l12) (fun r13 => ?_)
                refine wa_cv 72 rfl (wy_pr rfl) wt_72 (M2 := mS [152]) rfl at_XH_addTrace ⟨_, rfl⟩ rfl rfl ⟨trivial, trivial, trivial, (Or.inr ⟨wy_pr rfl, mS_no rfl⟩), (Or.inr ⟨wy_pr rfl, mS_no rfl⟩), trivial, trivial⟩ trivial (fun _ _ q => mS_sub (by decide) q) (tra (S := S) (m := m) (k := en) hI ⟨by omega, by omega⟩ ⟨by omega, by omega⟩ (by rw [ht15]; exact ht0) (by rw [ht15]; exact ht9)) (fun oq14 Sq14 hp15 q14 => ?_)
                rcases q14 with ⟨rfl, tr14⟩
                show wJ _ _ _ _ _ _ _ _ _ _
                refine wa_aload_n (n := 0) rfl ?_
                refine wa_iconst ?_
                refine wb_pfi 158 rfl (wy_pr rfl) wt_158 wf_5_16 (n := 16) rfl ⟨(by omega), (by omega)⟩ ?_
                refine wa_aload_n (n := 0) rfl ?_
                refine wb_lconst (m := 0) rfl ?_
                refine wb_pfl 158 rfl (wy_pr rfl) wt_158 wf_5_17 (n := 17) rfl ⟨(by omega), (by omega)⟩ ?_
                refine wa_iload_n (n := 3) rfl ?_
                refine wa_ifeq (w_rg0 (by omega) (by omega)) ⟨_, rfl⟩ (fun c16 => ?_) (fun c16 => ?_)
                · skip
                  refine wa_aload_n (n := 2) rfl ?_
                  refine wb_gf4 73 rfl (wy_pr rfl) wt_73 wf_3_3 (v := 96) wl_73_3 ?_
                  refine wa_bipush (w_rg2 (by omega) (by omega)) ?_
                  refine wb_aald5 96 15 rfl rfl (wy_pr rfl) wt_96 (by rw [show _ = _ from ((w_up_slot (by decide)).trans ((w_up_slot (by decide)).trans (((tr14.2.2.2.1 96 (-1) (by decide) (by decide) (by decide) (Or.inl (by decide))).trans ((cl_96 hC))))))]; omega) wl_96_15 ?_
                  refine wa_iload_n (n := 1) rfl ?_
                  refine wb_iald 112 rfl (wy_pr rfl) wt_112 (n := 400) ((w_up_slot (by decide)).trans ((w_up_slot (by decide)).trans (((tr14.2.2.2.1 112 (-1) (by decide) (by decide) (by decide) (Or.inl (by decide))).trans ((cl_112 hC)))))) (by omega) (by omega) (v := fl) ((w_up_slot (by decide)).trans ((w_up_slot (by decide)).trans (((tr14.2.2.2.1 112 m (by decide) (by decide) (by decide) (Or.inl (by decide))).trans (hmf))))) (fun r17 => ?_)
                  refine wa_iconst ?_
                  refine wa_icmpeq (w_rg0 (by omega) (by omega)) (w_rg0 (by omega) (by omega)) ⟨_, rfl⟩ (fun c18 => ?_) (fun c18 => ?_)
                  · skip
                    exact absurd c18 (by omega)
                  · skip
                    refine wa_aload_n (n := 0) rfl ?_
                    refine wa_iload_n (n := 1) rfl ?_
                    refine wa_aload_n (n := 2) rfl ?_
                    refine wb_gf4 73 rfl (wy_pr rfl) wt_73 wf_3_3 (v := 96) wl_73_3 ?_
                    refine wa_bipush (w_rg2 (by omega) (by omega)) ?_
                    refine wb_aald5 96 15 rfl rfl (wy_pr rfl) wt_96 (by rw [show _ = _ from ((w_up_slot (by decide)).trans ((w_up_slot (by decide)).trans (((tr14.2.2.2.1 96 (-1) (by decide) (by decide) (by decide) (Or.inl (by decide))).trans ((cl_96 hC))))))]; omega) wl_96_15 ?_
                    refine wa_iload_n (n := 1) rfl ?_
                    refine wb_iald 112 rfl (wy_pr rfl) wt_112 (n := 400) ((w_up_slot (by decide)).trans ((w_up_slot (by decide)).trans (((tr14.2.2.2.1 112 (-1) (by decide) (by decide) (by decide) (Or.inl (by decide))).trans ((cl_112 hC)))))) (by omega) (by omega) (v := fl) ((w_up_slot (by decide)).trans ((w_up_slot (by decide)).trans (((tr14.2.2.2.1 112 m (by decide) (by decide) (by decide) (Or.inl (by decide))).trans (hmf))))) (fun r19 => ?_)
                    have hf2 : ∀ (j : Nat) (i : Int), j < 4000000 → j ≠ wG → j ≠ 152 → j ≠ 72 → j ≠ 158 → (w_up (w_up Sq14 158 16 0) 158 17 0) j i = S j i := fun j i a b c d e => (w_up_no (fun z => e z.1)).trans ((w_up_no (fun z => e z.1)).trans (tr14.2.2.2.1 j i a b c (Or.inl d)))
                    have el : (w_up (w_up Sq14 158 16 0) 158 17 0) 117 (-1) = S 117 (-1) := (hf2 117 _ (by first | decide | omega) (by first | decide | omega) (by first | decide | omega) (by first | decide | omega) (by first | decide | omega))
                    have el2 : (w_up (w_up Sq14 158 16 0) 158 17 0) 118 (-1) = S 118 (-1) := (hf2 118 _ (by first | decide | omega) (by first | decide | omega) (by first | decide | omega) (by first | decide | omega) (by first | decide | omega))
                    have el8 : (w_up (w_up Sq14 158 16 0) 158 17 0) 228 (-1) = S 228 (-1) := (hf2 228 _ (by first | decide | omega) (by first | decide | omega) (by first | decide | omega) (by first | decide | omega) (by first | decide | omega))
                    have el9 : (w_up (w_up Sq14 158 16 0) 158 17 0) 229 (-1) = S 229 (-1) := (hf2 229 _ (by first | decide | omega) (by first | decide | omega) (by first | decide | omega) (by first | decide | omega) (by first | decide | omega))
                    refine wa_cv 158 rfl (wy_pr rfl) wt_158 (M2 := fun _ => False) rfl at_XL_useField ⟨_, rfl⟩ rfl rfl ⟨trivial, trivial, trivial, (Or.inr ⟨wy_pr rfl, fun q => q⟩), (Or.inr ⟨wy_pr rfl, fun q => q⟩), trivial, trivial⟩ trivial (fun _ _ q => False.elim q) (uss1_73_226 (S := (w_up (w_up Sq14 158 16 0) 158 17 0)) (m := m) (f := fl) (w_CL_up (w_CL_up (CL_tr hC tr14) (by omega)) (by omega)) ((w_up_slot (by decide)).trans ((w_up_slot (by decide)).trans (((tr14.2.2.2.1 72 1 (by decide) (by decide) (by decide) (Or.inr (by decide))).trans (h72))))) ((w_up_at (by decide)).trans ((w_up_at (by decide)).trans (((tr14.2.2.2.1 158 5 (by decide) (by decide) (by decide) (Or.inl (by decide))).trans (l5))))) ((w_up_at (by decide)).trans ((w_up_at (by decide)).trans (((tr14.2.2.2.1 158 8 (by decide) (by decide) (by decide) (Or.inl (by decide))).trans (l8))))) (((w_up_at (by decide)).trans ((w_up_at (by decide)).trans ((tr14.2.2.2.1 158 10 (by decide) (by decide) (by decide) (Or.inl (by decide)))))).trans l10) hm hfl ((hf2 99 _ (by decide) (by decide) (by decide) (by decide) (by decide)).trans hstt) ((hf2 112 _ (by decide) (by decide) (by decide) (by decide) (by decide)).trans hfi) (by rw [el, el2]; exact hrl) (by rw [el]; exact hrb) ((hf2 101 _ (by decide) (by decide) (by decide) (by decide) (by decide)).trans hmc) (by rw [el8, el9]; exact bl1) (by rw [el8]; exact ⟨by omega, by omega, bl3⟩) ((hf2 228 _ (by decide) (by decide) (by decide) (by decide) (by decide)).trans hk1) ((hf2 229 _ (by decide) (by decide) (by decide) (by decide) (by decide)).trans hv1)) (fun oq20 Sq20 hp21 q20 => ?_)
                    rcases q20 with ⟨rfl, rfl⟩
                    show wJ _ _ _ _ _ _ _ _ _ _
                    refine wa_goto ⟨_, rfl⟩ ?_
                    refine wa_aload_n (n := 0) rfl ?_
                    refine wb_gfi 158 rfl (wy_pr rfl) wt_158 wf_5_7 (v := kd) ((w_up_slot (by decide)).trans ((w_up_slot (by decide)).trans ((w_up_at (by decide)).trans ((w_up_at (by decide)).trans (((tr14.2.2.2.1 158 7 (by decide) (by decide) (by decide) (Or.inl (by decide))).trans (l7))))))) (fun r22 => ?_)
                    refine wa_iconst ?_
                    refine wa_icmpne (w_rg0 (by omega) (by omega)) (w_rg0 (by omega) (by omega)) ⟨_, rfl⟩ (fun c23 => ?_) (fun c23 => ?_)
                    · skip
                      refine wa_aload_n (n := 0) rfl ?_
                      refine wa_aload_n (n := 0) rfl ?_
                      refine wb_gfi 158 rfl (wy_pr rfl) wt_158 wf_5_16 (v := 0) ((w_up_slot (by decide)).trans ((w_up_slot (by decide)).trans ((w_up_at (by decide)).trans (w_up_same _ _ _ _)))) (fun r24 => ?_)
                      refine wa_aload_n (n := 0) rfl ?_
                      refine wb_gfl 158 rfl (wy_pr rfl) wt_158 wf_5_17 (v := 0) ((w_up_slot (by decide)).trans ((w_up_slot (by decide)).trans (w_up_same _ _ _ _))) (fun r25 => ?_)
                      refine wa_cv 158 rfl (wy_pr rfl) wt_158 (M2 := mS [228, 229]) rfl at_XL_giveValue ⟨_, rfl⟩ rfl rfl ⟨trivial, trivial, trivial, (Or.inr ⟨wy_pr rfl, mS_no rfl⟩), (Or.inr ⟨wy_pr rfl, mS_no rfl⟩), trivial, trivial⟩ trivial (fun _ _ q => mS_sub (by decide) q) (glx_226 (S := (w_up (w_up (w_up (w_up Sq14 158 16 0) 158 17 0) 117 fi k1) 118 fi v1)) (k := 0) (v := 0) (h := h) (c := c) (p := p) (ba := ba) (w_CL_up (w_CL_up (w_CL_up (w_CL_up (CL_tr hC tr14) (by omega)) (by omega)) (by omega)) (by omega)) (gI_up (gI_up (gI_up (gI_up tr14.2.2.2.2.2.1 (by omega) (by omega) (by omega)) (by omega) (by omega) (by omega)) (by omega) (by omega) (by omega)) (by omega) (by omega) (by omega)) ((w_up_slot (by decide)).trans ((w_up_slot (by decide)).trans ((w_up_at (by decide)).trans ((w_up_at (by decide)).trans (((tr14.2.2.2.1 158 4 (by decide) (by decide) (by decide) (Or.inl (by decide))).trans (l4))))))) ((w_up_slot (by decide)).trans ((w_up_slot (by decide)).trans ((w_up_at (by decide)).trans ((w_up_at (by decide)).trans (((tr14.2.2.2.1 158 5 (by decide) (by decide) (by decide) (Or.inl (by decide))).trans (l5))))))) ((w_up_slot (by decide)).trans ((w_up_slot (by decide)).trans ((w_up_at (by decide)).trans ((w_up_at (by decide)).trans (((tr14.2.2.2.1 158 8 (by decide) (by decide) (by decide) (Or.inl (by decide))).trans (l8))))))) ((w_up_slot (by decide)).trans ((w_up_slot (by decide)).trans ((w_up_slot (by decide)).trans ((w_up_slot (by decide)).trans (((tr14.2.2.2.1 226 4 (by decide) (by decide) (by decide) (Or.inl (by decide))).trans (bc))))))) ((w_up_slot (by decide)).trans ((w_up_slot (by decide)).trans ((w_up_slot (by decide)).trans ((w_up_slot (by decide)).trans (((tr14.2.2.2.1 231 (c - 1) (by decide) (by decide) (by decide) (Or.inl (by decide))).trans (bp))))))) ((((w_up_slot (by decide)).trans ((w_up_slot (by decide)).trans ((w_up_slot (by decide)).trans ((w_up_slot (by decide)).trans (((tr14.2.2.2.1 229 (-1) (by decide) (by decide) (by decide) (Or.inl (by decide))).trans (bl1)))))))).trans (((w_up_slot (by decide)).trans ((w_up_slot (by decide)).trans ((w_up_slot (by decide)).trans ((w_up_slot (by decide)).trans (((tr14.2.2.2.1 228 (-1) (by decide) (by decide) (by decide) (Or.inl (by decide))).trans (rfl)))))))).symm) (by have e : (w_up (w_up (w_up (w_up Sq14 158 16 0) 158 17 0) 117 fi k1) 118 fi v1) 228 (-1) = S 228 (-1) := ((w_up_slot (by decide)).trans ((w_up_slot (by decide)).trans ((w_up_slot (by decide)).trans ((w_up_slot (by decide)).trans (((tr14.2.2.2.1 228 (-1) (by decide) (by decide) (by decide) (Or.inl (by decide))).trans (rfl))))))); rw [e]; exact ⟨bl2, bl3⟩) (by have e : (w_up (w_up (w_up (w_up Sq14 158 16 0) 158 17 0) 117 fi k1) 118 fi v1) 228 (-1) = S 228 (-1) := ((w_up_slot (by decide)).trans ((w_up_slot (by decide)).trans ((w_up_slot (by decide)).trans ((w_up_slot (by decide)).trans (((tr14.2.2.2.1 228 (-1) (by decide) (by decide) (by decide) (Or.inl (by decide))).trans (rfl))))))); omega) ⟨by omega, by omega⟩ ⟨by omega, by omega⟩ ⟨by omega, by omega⟩ ⟨by omega, by omega⟩) (fun oq26 Sq26 hp27 q26 => ?_)
                      rcases q26 with ⟨rfl, hgv26⟩
                      show wJ _ _ _ _ _ _ _ _ _ _
                      refine wa_return rfl ?_
                      refine ⟨rfl, Or.inr ⟨by omega, Sq14, (w_up (w_up (w_up (w_up Sq14 158 16 0) 158 17 0) 117 fi k1) 118 fi v1), tr14, ?_, ?_⟩⟩
                      · exact fun j i hji => w_up_cg2 (w_up_cg2 ((w_up_no (by omega)).trans (w_up_no (by omega))))
                      · first | (rw [if_pos (show kd = 1 by omega), if_pos (show kd = 1 by omega)]; exact hgv26) | (rw [if_neg (show ¬ kd = 1 by omega), if_neg (show ¬ kd = 1 by omega)]; exact hgv26)
                    · skip
                      refine wa_aload_n (n := 0) rfl ?_
                      refine wa_aload_n (n := 0) rfl ?_
                      refine wb_gf5 158 rfl (wy_pr rfl) wt_158 wf_5_5 (v := 227) ((w_up_slot (by decide)).trans ((w_up_slot (by decide)).trans ((w_up_at (by decide)).trans ((w_up_at (by decide)).trans (((tr14.2.2.2.1 158 5 (by decide) (by decide) (by decide) (Or.inl (by decide))).trans (l5))))))) (fun r28 => ?_)
                      refine wb_gf4 227 rfl (wy_pr rfl) wt_227 wf_7_0 (v := 228) wl_227_0 ?_
                      refine wa_aload_n (n := 0) rfl ?_
                      refine wb_gf5 158 rfl (wy_pr rfl) wt_158 wf_5_5 (v := 227) ((w_up_slot (by decide)).trans ((w_up_slot (by decide)).trans ((w_up_at (by decide)).trans ((w_up_at (by decide)).trans (((tr14.2.2.2.1 158 5 (by decide) (by decide) (by decide) (Or.inl (by decide))).trans (l5))))))) (fun r29 => ?_)
                      refine wb_gfi 227 rfl (wy_pr rfl) wt_227 wf_7_2 (v := h) ((w_up_slot (by decide)).trans ((w_up_slot (by decide)).trans ((w_up_slot (by decide)).trans ((w_up_slot (by decide)).trans (((tr14.2.2.2.1 227 2 (by decide) (by decide) (by decide) (Or.inl (by decide))).trans (bh))))))) (fun r30 => ?_)
                      refine wa_iconst ?_
                      refine wa_isub ?_
                      refine wb_bald 228 rfl (wy_pr rfl) wt_228 (n := (S 228 (-1))) ((w_up_slot (by decide)).trans ((w_up_slot (by decide)).trans ((w_up_slot (by decide)).trans ((w_up_slot (by decide)).trans (((tr14.2.2.2.1 228 (-1) (by decide) (by decide) (by decide) (Or.inl (by decide))).trans (rfl))))))) (by omega) (by omega) (v := ky) ((w_up_slot (by decide)).trans ((w_up_slot (by decide)).trans ((w_up_slot (by decide)).trans ((w_up_slot (by decide)).trans (((tr14.2.2.2.1 228 (h - 1) (by decide) (by decide) (by decide) (Or.inl (by decide))).trans (hky))))))) (fun r31 => ?_)
                      refine wb_pfi 158 rfl (wy_pr rfl) wt_158 wf_5_16 (n := 16) rfl ⟨(by omega), (by omega)⟩ ?_
                      refine wa_aload_n (n := 0) rfl ?_
                      refine wa_aload_n (n := 0) rfl ?_
                      refine wb_gf5 158 rfl (wy_pr rfl) wt_158 wf_5_5 (v := 227) ((w_up_at (by decide)).trans ((w_up_slot (by decide)).trans ((w_up_slot (by decide)).trans ((w_up_at (by decide)).trans ((w_up_at (by decide)).trans (((tr14.2.2.2.1 158 5 (by decide) (by decide) (by decide) (Or.inl (by decide))).trans (l5)))))))) (fun r32 => ?_)
                      refine wb_gf4 227 rfl (wy_pr rfl) wt_227 wf_7_1 (v := 229) wl_227_1 ?_
                      refine wa_aload_n (n := 0) rfl ?_
                      refine wb_gf5 158 rfl (wy_pr rfl) wt_158 wf_5_5 (v := 227) ((w_up_at (by decide)).trans ((w_up_slot (by decide)).trans ((w_up_slot (by decide)).trans ((w_up_at (by decide)).trans ((w_up_at (by decide)).trans (((tr14.2.2.2.1 158 5 (by decide) (by decide) (by decide) (Or.inl (by decide))).trans (l5)))))))) (fun r33 => ?_)
                      refine wb_gfi 227 rfl (wy_pr rfl) wt_227 wf_7_2 (v := h) ((w_up_slot (by decide)).trans ((w_up_slot (by decide)).trans ((w_up_slot (by decide)).trans ((w_up_slot (by decide)).trans ((w_up_slot (by decide)).trans (((tr14.2.2.2.1 227 2 (by decide) (by decide) (by decide) (Or.inl (by decide))).trans (bh)))))))) (fun r34 => ?_)
                      refine wa_iconst ?_
                      refine wa_isub ?_
                      refine wb_lald 229 rfl (wy_pr rfl) wt_229 (n := (S 228 (-1))) ((w_up_slot (by decide)).trans ((w_up_slot (by decide)).trans ((w_up_slot (by decide)).trans ((w_up_slot (by decide)).trans ((w_up_slot (by decide)).trans (((tr14.2.2.2.1 229 (-1) (by decide) (by decide) (by decide) (Or.inl (by decide))).trans (bl1)))))))) (by omega) (by omega) (v := vy) ((w_up_slot (by decide)).trans ((w_up_slot (by decide)).trans ((w_up_slot (by decide)).trans ((w_up_slot (by decide)).trans ((w_up_slot (by decide)).trans (((tr14.2.2.2.1 229 (h - 1) (by decide) (by decide) (by decide) (Or.inl (by decide))).trans (hvy)))))))) (fun r35 => ?_)
                      refine wb_pfl 158 rfl (wy_pr rfl) wt_158 wf_5_17 (n := 17) rfl ⟨(by omega), (by omega)⟩ ?_
                      refine wa_fall ⟨_, rfl⟩ ?_
                      refine wa_aload_n (n := 0) rfl ?_
                      refine wa_aload_n (n := 0) rfl ?_
                      refine wb_gfi 158 rfl (wy_pr rfl) wt_158 wf_5_16 (v := ky) ((w_up_at (by decide)).trans (w_up_same _ _ _ _)) (fun r36 => ?_)
                      refine wa_aload_n (n := 0) rfl ?_
                      refine wb_gfl 158 rfl (wy_pr rfl) wt_158 wf_5_17 (v := vy) (w_up_same _ _ _ _) (fun r37 => ?_)
                      refine wa_cv 158 rfl (wy_pr rfl) wt_158 (M2 := mS [228, 229]) rfl at_XL_giveValue ⟨_, rfl⟩ rfl rfl ⟨trivial, trivial, trivial, (Or.inr ⟨wy_pr rfl, mS_no rfl⟩), (Or.inr ⟨wy_pr rfl, mS_no rfl⟩), trivial, trivial⟩ trivial (fun _ _ q => mS_sub (by decide) q) (glx_226 (S := (w_up (w_up (w_up (w_up (w_up (w_up Sq14 158 16 0) 158 17 0) 117 fi k1) 118 fi v1) 158 16 ky) 158 17 vy)) (k := ky) (v := vy) (h := h) (c := c) (p := p) (ba := ba) (w_CL_up (w_CL_up (w_CL_up (w_CL_up (w_CL_up (w_CL_up (CL_tr hC tr14) (by omega)) (by omega)) (by omega)) (by omega)) (by omega)) (by omega)) (gI_up (gI_up (gI_up (gI_up (gI_up (gI_up tr14.2.2.2.2.2.1 (by omega) (by omega) (by omega)) (by omega) (by omega) (by omega)) (by omega) (by omega) (by omega)) (by omega) (by omega) (by omega)) (by omega) (by omega) (by omega)) (by omega) (by omega) (by omega)) ((w_up_at (by decide)).trans ((w_up_at (by decide)).trans ((w_up_slot (by decide)).trans ((w_up_slot (by decide)).trans ((w_up_at (by decide)).trans ((w_up_at (by decide)).trans (((tr14.2.2.2.1 158 4 (by decide) (by decide) (by decide) (Or.inl (by decide))).trans (l4))))))))) ((w_up_at (by decide)).trans ((w_up_at (by decide)).trans ((w_up_slot (by decide)).trans ((w_up_slot (by decide)).trans ((w_up_at (by decide)).trans ((w_up_at (by decide)).trans (((tr14.2.2.2.1 158 5 (by decide) (by decide) (by decide) (Or.inl (by decide))).trans (l5))))))))) ((w_up_at (by decide)).trans ((w_up_at (by decide)).trans ((w_up_slot (by decide)).trans ((w_up_slot (by decide)).trans ((w_up_at (by decide)).trans ((w_up_at (by decide)).trans (((tr14.2.2.2.1 158 8 (by decide) (by decide) (by decide) (Or.inl (by decide))).trans (l8))))))))) ((w_up_slot (by decide)).trans ((w_up_slot (by decide)).trans ((w_up_slot (by decide)).trans ((w_up_slot (by decide)).trans ((w_up_slot (by decide)).trans ((w_up_slot (by decide)).trans (((tr14.2.2.2.1 226 4 (by decide) (by decide) (by decide) (Or.inl (by decide))).trans (bc))))))))) ((w_up_slot (by decide)).trans ((w_up_slot (by decide)).trans ((w_up_slot (by decide)).trans ((w_up_slot (by decide)).trans ((w_up_slot (by decide)).trans ((w_up_slot (by decide)).trans (((tr14.2.2.2.1 231 (c - 1) (by decide) (by decide) (by decide) (Or.inl (by decide))).trans (bp))))))))) ((((w_up_slot (by decide)).trans ((w_up_slot (by decide)).trans ((w_up_slot (by decide)).trans ((w_up_slot (by decide)).trans ((w_up_slot (by decide)).trans ((w_up_slot (by decide)).trans (((tr14.2.2.2.1 229 (-1) (by decide) (by decide) (by decide) (Or.inl (by decide))).trans (bl1)))))))))).trans (((w_up_slot (by decide)).trans ((w_up_slot (by decide)).trans ((w_up_slot (by decide)).trans ((w_up_slot (by decide)).trans ((w_up_slot (by decide)).trans ((w_up_slot (by decide)).trans (((tr14.2.2.2.1 228 (-1) (by decide) (by decide) (by decide) (Or.inl (by decide))).trans (rfl)))))))))).symm) (by have e : (w_up (w_up (w_up (w_up (w_up (w_up Sq14 158 16 0) 158 17 0) 117 fi k1) 118 fi v1) 158 16 ky) 158 17 vy) 228 (-1) = S 228 (-1) := ((w_up_slot (by decide)).trans ((w_up_slot (by decide)).trans ((w_up_slot (by decide)).trans ((w_up_slot (by decide)).trans ((w_up_slot (by decide)).trans ((w_up_slot (by decide)).trans (((tr14.2.2.2.1 228 (-1) (by decide) (by decide) (by decide) (Or.inl (by decide))).trans (rfl))))))))); rw [e]; exact ⟨bl2, bl3⟩) (by have e : (w_up (w_up (w_up (w_up (w_up (w_up Sq14 158 16 0) 158 17 0) 117 fi k1) 118 fi v1) 158 16 ky) 158 17 vy) 228 (-1) = S 228 (-1) := ((w_up_slot (by decide)).trans ((w_up_slot (by decide)).trans ((w_up_slot (by decide)).trans ((w_up_slot (by decide)).trans ((w_up_slot (by decide)).trans ((w_up_slot (by decide)).trans (((tr14.2.2.2.1 228 (-1) (by decide) (by decide) (by decide) (Or.inl (by decide))).trans (rfl))))))))); omega) ⟨by omega, by omega⟩ ⟨by omega, by omega⟩ ⟨by omega, by omega⟩ ⟨by omega, by omega⟩) (fun oq38 Sq38 hp39 q38 => ?_)
                      rcases q38 with ⟨rfl, hgv38⟩
                      show wJ _ _ _ _ _ _ _ _ _ _
                      refine wa_return rfl ?_
                      refine ⟨rfl, Or.inr ⟨by omega, Sq14, (w_up (w_up (w_up (w_up (w_up (w_up Sq14 158 16 0) 158 17 0) 117 fi k1) 118 fi v1) 158 16 ky) 158 17 vy), tr14, ?_, ?_⟩⟩
                      · exact fun j i hji => (w_up_no (by omega)).trans ((w_up_no (by omega)).trans (w_up_cg2 (w_up_cg2 ((w_up_no (by omega)).trans (w_up_no (by omega))))))
                      · first | (rw [if_pos (show kd = 1 by omega), if_pos (show kd = 1 by omega)]; exact hgv38) | (rw [if_neg (show ¬ kd = 1 by omega), if_neg (show ¬ kd = 1 by omega)]; exact hgv38)
                · skip
                  exact absurd c16 (by omega)
              · skip
                exact absurd c12 (by omega)
            · skip
              exact absurd c11 (by omega)
        · skip
          exact absurd c7 (by omega)
      · skip
        refine wa_aload_n (n := 2) rfl ?_
        refine wb_gf4 73 rfl (wy_pr rfl) wt_73 wf_3_3 (v := 96) wl_73_3 ?_
        refine wa_bipush (w_rg2 (by omega) (by omega)) ?_
        refine wb_aald5 96 15 rfl rfl (wy_pr rfl) wt_96 (by rw [show _ = _ from ((cl_96 hC))]; omega) wl_96_15 ?_
        refine wa_iload_n (n := 1) rfl ?_
        refine wb_iald 112 rfl (wy_pr rfl) wt_112 (n := 400) ((cl_112 hC)) (by omega) (by omega) (v := fl) (hmf) (fun r40 => ?_)
        refine wa_iconst ?_
        refine wa_icmpne (w_rg0 (by omega) (by omega)) (w_rg0 (by omega) (by omega)) ⟨_, rfl⟩ (fun c41 => ?_) (fun c41 => ?_)
        · skip
          refine wa_iconst ?_
          refine wa_fall ⟨_, rfl⟩ ?_
          refine wa_istore (n := 4) rfl ?_
          refine wa_iload_n (n := 3) rfl ?_
          refine wa_ifeq (w_rg0 (by omega) (by omega)) ⟨_, rfl⟩ (fun c42 => ?_) (fun c42 => ?_)
          · skip
            refine wa_iconst ?_
            refine wa_fall ⟨_, rfl⟩ ?_
            refine wa_istore (n := 5) rfl ?_
            refine wa_aload_n (n := 0) rfl ?_
            refine wb_gf4 158 rfl (wy_pr rfl) wt_158 wf_5_0 (v := 72) wl_158_0 ?_
            refine wb_gfi 72 rfl (wy_pr rfl) wt_72 wf_2_15 (v := tn) (ht15) (fun r43 => ?_)
            refine wa_iconst ?_
            refine wa_iadd ?_
            refine wb_ki (n := 100000) rfl ?_
            refine wa_icmpgt (w_rg0 (by omega) (by omega)) (w_rg0 (by omega) (by omega)) ⟨_, rfl⟩ (fun c44 => ?_) (fun c44 => ?_)
            · skip
              refine wa_aload_n (n := 0) rfl ?_
              refine wb_gf5 158 rfl (wy_pr rfl) wt_158 wf_5_4 (v := 226) (l4) (fun r45 => ?_)
              refine wa_bipush (w_rg2 (by omega) (by omega)) ?_
              refine wb_pfi 226 rfl (wy_pr rfl) wt_226 wf_8_16 (n := 16) rfl ⟨(by omega), (by omega)⟩ ?_
              refine wa_return rfl ?_
              exact ⟨rfl, Or.inl ⟨by omega, rfl⟩⟩
            · skip
              refine wa_iload_n (n := 3) rfl ?_
              refine wa_ifeq (w_rg0 (by omega) (by omega)) ⟨_, rfl⟩ (fun c46 => ?_) (fun c46 => ?_)
              · skip
                refine wa_iload (n := 4) rfl ?_
                refine wa_ifeq (w_rg0 (by omega) (by omega)) ⟨_, rfl⟩ (fun c47 => ?_) (fun c47 => ?_)
                · skip
                  refine wa_aload_n (n := 0) rfl ?_
                  refine wb_gf4 158 rfl (wy_pr rfl) wt_158 wf_5_0 (v := 72) wl_158_0 ?_
                  refine wa_iload_n (n := 1) rfl ?_
                  refine wa_aload_n (n := 0) rfl ?_
                  refine wb_gfi 158 rfl (wy_pr rfl) wt_158 wf_5_12 (v := en) (l12) (fun r48 => ?_)
                  refine wa_cv 72 rfl (wy_pr rfl) wt_72 (M2 := mS [152]) rfl at_XH_addTrace ⟨_, rfl⟩ rfl rfl ⟨trivial, trivial, trivial, (Or.inr ⟨wy_pr rfl, mS_no rfl⟩), (Or.inr ⟨wy_pr rfl, mS_no rfl⟩), trivial, trivial⟩ trivial (fun _ _ q => mS_sub (by decide) q) (tra (S := S) (m := m) (k := en) hI ⟨by omega, by omega⟩ ⟨by omega, by omega⟩ (by rw [ht15]; exact ht0) (by rw [ht15]; exact ht9)) (fun oq49 Sq49 hp50 q49 => ?_)
                  rcases q49 with ⟨rfl, tr49⟩
                  show wJ _ _ _ _ _ _ _ _ _ _
                  refine wa_aload_n (n := 0) rfl ?_
                  refine wa_iconst ?_
                  refine wb_pfi 158 rfl (wy_pr rfl) wt_158 wf_5_16 (n := 16) rfl ⟨(by omega), (by omega)⟩ ?_
                  refine wa_aload_n (n := 0) rfl ?_
                  refine wb_lconst (m := 0) rfl ?_
                  refine wb_pfl 158 rfl (wy_pr rfl) wt_158 wf_5_17 (n := 17) rfl ⟨(by omega), (by omega)⟩ ?_
                  refine wa_iload_n (n := 3) rfl ?_
                  refine wa_ifeq (w_rg0 (by omega) (by omega)) ⟨_, rfl⟩ (fun c51 => ?_) (fun c51 => ?_)
                  · skip
                    refine wa_aload_n (n := 2) rfl ?_
                    refine wb_gf4 73 rfl (wy_pr rfl) wt_73 wf_3_3 (v := 96) wl_73_3 ?_
                    refine wa_bipush (w_rg2 (by omega) (by omega)) ?_
                    refine wb_aald5 96 15 rfl rfl (wy_pr rfl) wt_96 (by rw [show _ = _ from ((w_up_slot (by decide)).trans ((w_up_slot (by decide)).trans (((tr49.2.2.2.1 96 (-1) (by decide) (by decide) (by decide) (Or.inl (by decide))).trans ((cl_96 hC))))))]; omega) wl_96_15 ?_
                    refine wa_iload_n (n := 1) rfl ?_
                    refine wb_iald 112 rfl (wy_pr rfl) wt_112 (n := 400) ((w_up_slot (by decide)).trans ((w_up_slot (by decide)).trans (((tr49.2.2.2.1 112 (-1) (by decide) (by decide) (by decide) (Or.inl (by decide))).trans ((cl_112 hC)))))) (by omega) (by omega) (v := fl) ((w_up_slot (by decide)).trans ((w_up_slot (by decide)).trans (((tr49.2.2.2.1 112 m (by decide) (by decide) (by decide) (Or.inl (by decide))).trans (hmf))))) (fun r52 => ?_)
                    refine wa_iconst ?_
                    refine wa_icmpeq (w_rg0 (by omega) (by omega)) (w_rg0 (by omega) (by omega)) ⟨_, rfl⟩ (fun c53 => ?_) (fun c53 => ?_)
                    · skip
                      exact absurd c53 (by omega)
                    · skip
                      refine wa_aload_n (n := 0) rfl ?_
                      refine wa_iload_n (n := 1) rfl ?_
                      refine wa_aload_n (n := 2) rfl ?_
                      refine wb_gf4 73 rfl (wy_pr rfl) wt_73 wf_3_3 (v := 96) wl_73_3 ?_
                      refine wa_bipush (w_rg2 (by omega) (by omega)) ?_
                      refine wb_aald5 96 15 rfl rfl (wy_pr rfl) wt_96 (by rw [show _ = _ from ((w_up_slot (by decide)).trans ((w_up_slot (by decide)).trans (((tr49.2.2.2.1 96 (-1) (by decide) (by decide) (by decide) (Or.inl (by decide))).trans ((cl_96 hC))))))]; omega) wl_96_15 ?_
                      refine wa_iload_n (n := 1) rfl ?_
                      refine wb_iald 112 rfl (wy_pr rfl) wt_112 (n := 400) ((w_up_slot (by decide)).trans ((w_up_slot (by decide)).trans (((tr49.2.2.2.1 112 (-1) (by decide) (by decide) (by decide) (Or.inl (by decide))).trans ((cl_112 hC)))))) (by omega) (by omega) (v := fl) ((w_up_slot (by decide)).trans ((w_up_slot (by decide)).trans (((tr49.2.2.2.1 112 m (by decide) (by decide) (by decide) (Or.inl (by decide))).trans (hmf))))) (fun r54 => ?_)
                      have hf2 : ∀ (j : Nat) (i : Int), j < 4000000 → j ≠ wG → j ≠ 152 → j ≠ 72 → j ≠ 158 → (w_up (w_up Sq49 158 16 0) 158 17 0) j i = S j i := fun j i a b c d e => (w_up_no (fun z => e z.1)).trans ((w_up_no (fun z => e z.1)).trans (tr49.2.2.2.1 j i a b c (Or.inl d)))
                      have el : (w_up (w_up Sq49 158 16 0) 158 17 0) 117 (-1) = S 117 (-1) := (hf2 117 _ (by first | decide | omega) (by first | decide | omega) (by first | decide | omega) (by first | decide | omega) (by first | decide | omega))
                      have el2 : (w_up (w_up Sq49 158 16 0) 158 17 0) 118 (-1) = S 118 (-1) := (hf2 118 _ (by first | decide | omega) (by first | decide | omega) (by first | decide | omega) (by first | decide | omega) (by first | decide | omega))
                      have el8 : (w_up (w_up Sq49 158 16 0) 158 17 0) 228 (-1) = S 228 (-1) := (hf2 228 _ (by first | decide | omega) (by first | decide | omega) (by first | decide | omega) (by first | decide | omega) (by first | decide | omega))
                      have el9 : (w_up (w_up Sq49 158 16 0) 158 17 0) 229 (-1) = S 229 (-1) := (hf2 229 _ (by first | decide | omega) (by first | decide | omega) (by first | decide | omega) (by first | decide | omega) (by first | decide | omega))
                      refine wa_cv 158 rfl (wy_pr rfl) wt_158 (M2 := fun _ => False) rfl at_XL_useField ⟨_, rfl⟩ rfl rfl ⟨trivial, trivial, trivial, (Or.inr ⟨wy_pr rfl, fun q => q⟩), (Or.inr ⟨wy_pr rfl, fun q => q⟩), trivial, trivial⟩ trivial (fun _ _ q => False.elim q) (uss1_73_226 (S := (w_up (w_up Sq49 158 16 0) 158 17 0)) (m := m) (f := fl) (w_CL_up (w_CL_up (CL_tr hC tr49) (by omega)) (by omega)) ((w_up_slot (by decide)).trans ((w_up_slot (by decide)).trans (((tr49.2.2.2.1 72 1 (by decide) (by decide) (by decide) (Or.inr (by decide))).trans (h72))))) ((w_up_at (by decide)).trans ((w_up_at (by decide)).trans (((tr49.2.2.2.1 158 5 (by decide) (by decide) (by decide) (Or.inl (by decide))).trans (l5))))) ((w_up_at (by decide)).trans ((w_up_at (by decide)).trans (((tr49.2.2.2.1 158 8 (by decide) (by decide) (by decide) (Or.inl (by decide))).trans (l8))))) (((w_up_at (by decide)).trans ((w_up_at (by decide)).trans ((tr49.2.2.2.1 158 10 (by decide) (by decide) (by decide) (Or.inl (by decide)))))).trans l10) hm hfl ((hf2 99 _ (by decide) (by decide) (by decide) (by decide) (by decide)).trans hstt) ((hf2 112 _ (by decide) (by decide) (by decide) (by decide) (by decide)).trans hfi) (by rw [el, el2]; exact hrl) (by rw [el]; exact hrb) ((hf2 101 _ (by decide) (by decide) (by decide) (by decide) (by decide)).trans hmc) (by rw [el8, el9]; exact bl1) (by rw [el8]; exact ⟨by omega, by omega, bl3⟩) ((hf2 228 _ (by decide) (by decide) (by decide) (by decide) (by decide)).trans hk1) ((hf2 229 _ (by decide) (by decide) (by decide) (by decide) (by decide)).trans hv1)) (fun oq55 Sq55 hp56 q55 => ?_)
                      rcases q55 with ⟨rfl, rfl⟩
                      show wJ _ _ _ _ _ _ _ _ _ _
                      refine wa_goto ⟨_, rfl⟩ ?_
                      refine wa_aload_n (n := 0) rfl ?_
                      refine wb_gfi 158 rfl (wy_pr rfl) wt_158 wf_5_7 (v := kd) ((w_up_slot (by decide)).trans ((w_up_slot (by decide)).trans ((w_up_at (by decide)).trans ((w_up_at (by decide)).trans (((tr49.2.2.2.1 158 7 (by decide) (by decide) (by decide) (Or.inl (by decide))).trans (l7))))))) (fun r57 => ?_)
                      refine wa_iconst ?_
                      refine wa_icmpne (w_rg0 (by omega) (by omega)) (w_rg0 (by omega) (by omega)) ⟨_, rfl⟩ (fun c58 => ?_) (fun c58 => ?_)
                      · skip
                        refine wa_aload_n (n := 0) rfl ?_
                        refine wa_aload_n (n := 0) rfl ?_
                        refine wb_gfi 158 rfl (wy_pr rfl) wt_158 wf_5_16 (v := 0) ((w_up_slot (by decide)).trans ((w_up_slot (by decide)).trans ((w_up_at (by decide)).trans (w_up_same _ _ _ _)))) (fun r59 => ?_)
                        refine wa_aload_n (n := 0) rfl ?_
                        refine wb_gfl 158 rfl (wy_pr rfl) wt_158 wf_5_17 (v := 0) ((w_up_slot (by decide)).trans ((w_up_slot (by decide)).trans (w_up_same _ _ _ _))) (fun r60 => ?_)
                        refine wa_cv 158 rfl (wy_pr rfl) wt_158 (M2 := mS [228, 229]) rfl at_XL_giveValue ⟨_, rfl⟩ rfl rfl ⟨trivial, trivial, trivial, (Or.inr ⟨wy_pr rfl, mS_no rfl⟩), (Or.inr ⟨wy_pr rfl, mS_no rfl⟩), trivial, trivial⟩ trivial (fun _ _ q => mS_sub (by decide) q) (glx_226 (S := (w_up (w_up (w_up (w_up Sq49 158 16 0) 158 17 0) 117 fi k1) 118 fi v1)) (k := 0) (v := 0) (h := h) (c := c) (p := p) (ba := ba) (w_CL_up (w_CL_up (w_CL_up (w_CL_up (CL_tr hC tr49) (by omega)) (by omega)) (by omega)) (by omega)) (gI_up (gI_up (gI_up (gI_up tr49.2.2.2.2.2.1 (by omega) (by omega) (by omega)) (by omega) (by omega) (by omega)) (by omega) (by omega) (by omega)) (by omega) (by omega) (by omega)) ((w_up_slot (by decide)).trans ((w_up_slot (by decide)).trans ((w_up_at (by decide)).trans ((w_up_at (by decide)).trans (((tr49.2.2.2.1 158 4 (by decide) (by decide) (by decide) (Or.inl (by decide))).trans (l4))))))) ((w_up_slot (by decide)).trans ((w_up_slot (by decide)).trans ((w_up_at (by decide)).trans ((w_up_at (by decide)).trans (((tr49.2.2.2.1 158 5 (by decide) (by decide) (by decide) (Or.inl (by decide))).trans (l5))))))) ((w_up_slot (by decide)).trans ((w_up_slot (by decide)).trans ((w_up_at (by decide)).trans ((w_up_at (by decide)).trans (((tr49.2.2.2.1 158 8 (by decide) (by decide) (by decide) (Or.inl (by decide))).trans (l8))))))) ((w_up_slot (by decide)).trans ((w_up_slot (by decide)).trans ((w_up_slot (by decide)).trans ((w_up_slot (by decide)).trans (((tr49.2.2.2.1 226 4 (by decide) (by decide) (by decide) (Or.inl (by decide))).trans (bc))))))) ((w_up_slot (by decide)).trans ((w_up_slot (by decide)).trans ((w_up_slot (by decide)).trans ((w_up_slot (by decide)).trans (((tr49.2.2.2.1 231 (c - 1) (by decide) (by decide) (by decide) (Or.inl (by decide))).trans (bp))))))) ((((w_up_slot (by decide)).trans ((w_up_slot (by decide)).trans ((w_up_slot (by decide)).trans ((w_up_slot (by decide)).trans (((tr49.2.2.2.1 229 (-1) (by decide) (by decide) (by decide) (Or.inl (by decide))).trans (bl1)))))))).trans (((w_up_slot (by decide)).trans ((w_up_slot (by decide)).trans ((w_up_slot (by decide)).trans ((w_up_slot (by decide)).trans (((tr49.2.2.2.1 228 (-1) (by decide) (by decide) (by decide) (Or.inl (by decide))).trans (rfl)))))))).symm) (by have e : (w_up (w_up (w_up (w_up Sq49 158 16 0) 158 17 0) 117 fi k1) 118 fi v1) 228 (-1) = S 228 (-1) := ((w_up_slot (by decide)).trans ((w_up_slot (by decide)).trans ((w_up_slot (by decide)).trans ((w_up_slot (by decide)).trans (((tr49.2.2.2.1 228 (-1) (by decide) (by decide) (by decide) (Or.inl (by decide))).trans (rfl))))))); rw [e]; exact ⟨bl2, bl3⟩) (by have e : (w_up (w_up (w_up (w_up Sq49 158 16 0) 158 17 0) 117 fi k1) 118 fi v1) 228 (-1) = S 228 (-1) := ((w_up_slot (by decide)).trans ((w_up_slot (by decide)).trans ((w_up_slot (by decide)).trans ((w_up_slot (by decide)).trans (((tr49.2.2.2.1 228 (-1) (by decide) (by decide) (by decide) (Or.inl (by decide))).trans (rfl))))))); omega) ⟨by omega, by omega⟩ ⟨by omega, by omega⟩ ⟨by omega, by omega⟩ ⟨by omega, by omega⟩) (fun oq61 Sq61 hp62 q61 => ?_)
                        rcases q61 with ⟨rfl, hgv61⟩
                        show wJ _ _ _ _ _ _ _ _ _ _
                        refine wa_return rfl ?_
                        refine ⟨rfl, Or.inr ⟨by omega, Sq49, (w_up (w_up (w_up (w_up Sq49 158 16 0) 158 17 0) 117 fi k1) 118 fi v1), tr49, ?_, ?_⟩⟩
                        · exact fun j i hji => w_up_cg2 (w_up_cg2 ((w_up_no (by omega)).trans (w_up_no (by omega))))
                        · first | (rw [if_pos (show kd = 1 by omega), if_pos (show kd = 1 by omega)]; exact hgv61) | (rw [if_neg (show ¬ kd = 1 by omega), if_neg (show ¬ kd = 1 by omega)]; exact hgv61)
                      · skip
                        refine wa_aload_n (n := 0) rfl ?_
                        refine wa_aload_n (n := 0) rfl ?_
                        refine wb_gf5 158 rfl (wy_pr rfl) wt_158 wf_5_5 (v := 227) ((w_up_slot (by decide)).trans ((w_up_slot (by decide)).trans ((w_up_at (by decide)).trans ((w_up_at (by decide)).trans (((tr49.2.2.2.1 158 5 (by decide) (by decide) (by decide) (Or.inl (by decide))).trans (l5))))))) (fun r63 => ?_)
                        refine wb_gf4 227 rfl (wy_pr rfl) wt_227 wf_7_0 (v := 228) wl_227_0 ?_
                        refine wa_aload_n (n := 0) rfl ?_
                        refine wb_gf5 158 rfl (wy_pr rfl) wt_158 wf_5_5 (v := 227) ((w_up_slot (by decide)).trans ((w_up_slot (by decide)).trans ((w_up_at (by decide)).trans ((w_up_at (by decide)).trans (((tr49.2.2.2.1 158 5 (by decide) (by decide) (by decide) (Or.inl (by decide))).trans (l5))))))) (fun r64 => ?_)
                        refine wb_gfi 227 rfl (wy_pr rfl) wt_227 wf_7_2 (v := h) ((w_up_slot (by decide)).trans ((w_up_slot (by decide)).trans ((w_up_slot (by decide)).trans ((w_up_slot (by decide)).trans (((tr49.2.2.2.1 227 2 (by decide) (by decide) (by decide) (Or.inl (by decide))).trans (bh))))))) (fun r65 => ?_)
                        refine wa_iconst ?_
                        refine wa_isub ?_
                        refine wb_bald 228 rfl (wy_pr rfl) wt_228 (n := (S 228 (-1))) ((w_up_slot (by decide)).trans ((w_up_slot (by decide)).trans ((w_up_slot (by decide)).trans ((w_up_slot (by decide)).trans (((tr49.2.2.2.1 228 (-1) (by decide) (by decide) (by decide) (Or.inl (by decide))).trans (rfl))))))) (by omega) (by omega) (v := ky) ((w_up_slot (by decide)).trans ((w_up_slot (by decide)).trans ((w_up_slot (by decide)).trans ((w_up_slot (by decide)).trans (((tr49.2.2.2.1 228 (h - 1) (by decide) (by decide) (by decide) (Or.inl (by decide))).trans (hky))))))) (fun r66 => ?_)
                        refine wb_pfi 158 rfl (wy_pr rfl) wt_158 wf_5_16 (n := 16) rfl ⟨(by omega), (by omega)⟩ ?_
                        refine wa_aload_n (n := 0) rfl ?_
                        refine wa_aload_n (n := 0) rfl ?_
                        refine wb_gf5 158 rfl (wy_pr rfl) wt_158 wf_5_5 (v := 227) ((w_up_at (by decide)).trans ((w_up_slot (by decide)).trans ((w_up_slot (by decide)).trans ((w_up_at (by decide)).trans ((w_up_at (by decide)).trans (((tr49.2.2.2.1 158 5 (by decide) (by decide) (by decide) (Or.inl (by decide))).trans (l5)))))))) (fun r67 => ?_)
                        refine wb_gf4 227 rfl (wy_pr rfl) wt_227 wf_7_1 (v := 229) wl_227_1 ?_
                        refine wa_aload_n (n := 0) rfl ?_
                        refine wb_gf5 158 rfl (wy_pr rfl) wt_158 wf_5_5 (v := 227) ((w_up_at (by decide)).trans ((w_up_slot (by decide)).trans ((w_up_slot (by decide)).trans ((w_up_at (by decide)).trans ((w_up_at (by decide)).trans (((tr49.2.2.2.1 158 5 (by decide) (by decide) (by decide) (Or.inl (by decide))).trans (l5)))))))) (fun r68 => ?_)
                        refine wb_gfi 227 rfl (wy_pr rfl) wt_227 wf_7_2 (v := h) ((w_up_slot (by decide)).trans ((w_up_slot (by decide)).trans ((w_up_slot (by decide)).trans ((w_up_slot (by decide)).trans ((w_up_slot (by decide)).trans (((tr49.2.2.2.1 227 2 (by decide) (by decide) (by decide) (Or.inl (by decide))).trans (bh)))))))) (fun r69 => ?_)
                        refine wa_iconst ?_
                        refine wa_isub ?_
                        refine wb_lald 229 rfl (wy_pr rfl) wt_229 (n := (S 228 (-1))) ((w_up_slot (by decide)).trans ((w_up_slot (by decide)).trans ((w_up_slot (by decide)).trans ((w_up_slot (by decide)).trans ((w_up_slot (by decide)).trans (((tr49.2.2.2.1 229 (-1) (by decide) (by decide) (by decide) (Or.inl (by decide))).trans (bl1)))))))) (by omega) (by omega) (v := vy) ((w_up_slot (by decide)).trans ((w_up_slot (by decide)).trans ((w_up_slot (by decide)).trans ((w_up_slot (by decide)).trans ((w_up_slot (by decide)).trans (((tr49.2.2.2.1 229 (h - 1) (by decide) (by decide) (by decide) (Or.inl (by decide))).trans (hvy)))))))) (fun r70 => ?_)
                        refine wb_pfl 158 rfl (wy_pr rfl) wt_158 wf_5_17 (n := 17) rfl ⟨(by omega), (by omega)⟩ ?_
                        refine wa_fall ⟨_, rfl⟩ ?_
                        refine wa_aload_n (n := 0) rfl ?_
                        refine wa_aload_n (n := 0) rfl ?_
                        refine wb_gfi 158 rfl (wy_pr rfl) wt_158 wf_5_16 (v := ky) ((w_up_at (by decide)).trans (w_up_same _ _ _ _)) (fun r71 => ?_)
                        refine wa_aload_n (n := 0) rfl ?_
                        refine wb_gfl 158 rfl (wy_pr rfl) wt_158 wf_5_17 (v := vy) (w_up_same _ _ _ _) (fun r72 => ?_)
                        refine wa_cv 158 rfl (wy_pr rfl) wt_158 (M2 := mS [228, 229]) rfl at_XL_giveValue ⟨_, rfl⟩ rfl rfl ⟨trivial, trivial, trivial, (Or.inr ⟨wy_pr rfl, mS_no rfl⟩), (Or.inr ⟨wy_pr rfl, mS_no rfl⟩), trivial, trivial⟩ trivial (fun _ _ q => mS_sub (by decide) q) (glx_226 (S := (w_up (w_up (w_up (w_up (w_up (w_up Sq49 158 16 0) 158 17 0) 117 fi k1) 118 fi v1) 158 16 ky) 158 17 vy)) (k := ky) (v := vy) (h := h) (c := c) (p := p) (ba := ba) (w_CL_up (w_CL_up (w_CL_up (w_CL_up (w_CL_up (w_CL_up (CL_tr hC tr49) (by omega)) (by omega)) (by omega)) (by omega)) (by omega)) (by omega)) (gI_up (gI_up (gI_up (gI_up (gI_up (gI_up tr49.2.2.2.2.2.1 (by omega) (by omega) (by omega)) (by omega) (by omega) (by omega)) (by omega) (by omega) (by omega)) (by omega) (by omega) (by omega)) (by omega) (by omega) (by omega)) (by omega) (by omega) (by omega)) ((w_up_at (by decide)).trans ((w_up_at (by decide)).trans ((w_up_slot (by decide)).trans ((w_up_slot (by decide)).trans ((w_up_at (by decide)).trans ((w_up_at (by decide)).trans (((tr49.2.2.2.1 158 4 (by decide) (by decide) (by decide) (Or.inl (by decide))).trans (l4))))))))) ((w_up_at (by decide)).trans ((w_up_at (by decide)).trans ((w_up_slot (by decide)).trans ((w_up_slot (by decide)).trans ((w_up_at (by decide)).trans ((w_up_at (by decide)).trans (((tr49.2.2.2.1 158 5 (by decide) (by decide) (by decide) (Or.inl (by decide))).trans (l5))))))))) ((w_up_at (by decide)).trans ((w_up_at (by decide)).trans ((w_up_slot (by decide)).trans ((w_up_slot (by decide)).trans ((w_up_at (by decide)).trans ((w_up_at (by decide)).trans (((tr49.2.2.2.1 158 8 (by decide) (by decide) (by decide) (Or.inl (by decide))).trans (l8))))))))) ((w_up_slot (by decide)).trans ((w_up_slot (by decide)).trans ((w_up_slot (by decide)).trans ((w_up_slot (by decide)).trans ((w_up_slot (by decide)).trans ((w_up_slot (by decide)).trans (((tr49.2.2.2.1 226 4 (by decide) (by decide) (by decide) (Or.inl (by decide))).trans (bc))))))))) ((w_up_slot (by decide)).trans ((w_up_slot (by decide)).trans ((w_up_slot (by decide)).trans ((w_up_slot (by decide)).trans ((w_up_slot (by decide)).trans ((w_up_slot (by decide)).trans (((tr49.2.2.2.1 231 (c - 1) (by decide) (by decide) (by decide) (Or.inl (by decide))).trans (bp))))))))) ((((w_up_slot (by decide)).trans ((w_up_slot (by decide)).trans ((w_up_slot (by decide)).trans ((w_up_slot (by decide)).trans ((w_up_slot (by decide)).trans ((w_up_slot (by decide)).trans (((tr49.2.2.2.1 229 (-1) (by decide) (by decide) (by decide) (Or.inl (by decide))).trans (bl1)))))))))).trans (((w_up_slot (by decide)).trans ((w_up_slot (by decide)).trans ((w_up_slot (by decide)).trans ((w_up_slot (by decide)).trans ((w_up_slot (by decide)).trans ((w_up_slot (by decide)).trans (((tr49.2.2.2.1 228 (-1) (by decide) (by decide) (by decide) (Or.inl (by decide))).trans (rfl)))))))))).symm) (by have e : (w_up (w_up (w_up (w_up (w_up (w_up Sq49 158 16 0) 158 17 0) 117 fi k1) 118 fi v1) 158 16 ky) 158 17 vy) 228 (-1) = S 228 (-1) := ((w_up_slot (by decide)).trans ((w_up_slot (by decide)).trans ((w_up_slot (by decide)).trans ((w_up_slot (by decide)).trans ((w_up_slot (by decide)).trans ((w_up_slot (by decide)).trans (((tr49.2.2.2.1 228 (-1) (by decide) (by decide) (by decide) (Or.inl (by decide))).trans (rfl))))))))); rw [e]; exact ⟨bl2, bl3⟩) (by have e : (w_up (w_up (w_up (w_up (w_up (w_up Sq49 158 16 0) 158 17 0) 117 fi k1) 118 fi v1) 158 16 ky) 158 17 vy) 228 (-1) = S 228 (-1) := ((w_up_slot (by decide)).trans ((w_up_slot (by decide)).trans ((w_up_slot (by decide)).trans ((w_up_slot (by decide)).trans ((w_up_slot (by decide)).trans ((w_up_slot (by decide)).trans (((tr49.2.2.2.1 228 (-1) (by decide) (by decide) (by decide) (Or.inl (by decide))).trans (rfl))))))))); omega) ⟨by omega, by omega⟩ ⟨by omega, by omega⟩ ⟨by omega, by omega⟩ ⟨by omega, by omega⟩) (fun oq73 Sq73 hp74 q73 => ?_)
                        rcases q73 with ⟨rfl, hgv73⟩
                        show wJ _ _ _ _ _ _ _ _ _ _
                        refine wa_return rfl ?_
                        refine ⟨rfl, Or.inr ⟨by omega, Sq49, (w_up (w_up (w_up (w_up (w_up (w_up Sq49 158 16 0) 158 17 0) 117 fi k1) 118 fi v1) 158 16 ky) 158 17 vy), tr49, ?_, ?_⟩⟩
                        · exact fun j i hji => (w_up_no (by omega)).trans ((w_up_no (by omega)).trans (w_up_cg2 (w_up_cg2 ((w_up_no (by omega)).trans (w_up_no (by omega))))))
                        · first | (rw [if_pos (show kd = 1 by omega), if_pos (show kd = 1 by omega)]; exact hgv73) | (rw [if_neg (show ¬ kd = 1 by omega), if_neg (show ¬ kd = 1 by omega)]; exact hgv73)
                  · skip
                    exact absurd c51 (by omega)
                · skip
                  exact absurd c47 (by omega)
              · skip
                exact absurd c46 (by omega)
          · skip
            exact absurd c42 (by omega)
        · skip
          exact absurd c41 (by omega)
  · skip
    exact absurd c3 (by omega)
set_option maxHeartbeats 4000000 in
theorem cmg0_73_226 {c p h kd ba m en tn ky vy fl fi gb ty st vk vb : Int} (hP : xP 226 c p h S) (l4 : S 158 4 = 226) (l5 : S 158 5 = 227) (l7 : S 158 7 = kd) (l8 : S 158 8 = ba) (l12 : S 158 12 = en) (hen : 0 ≤ en ∧ en ≤ 1000) (hba : 0 ≤ ba ∧ ba < h) (h72 : S 72 1 = 73) (hm : 0 ≤ m ∧ m < 400) (hso : S 98 m = 1) (ht15 : S 72 15 = tn) (ht0 : 0 ≤ tn ∧ tn ≤ S 152 (-1) ∧ tn ≤ 100000) (ht9 : 16 ≤ S 152 (-1) ∧ S 152 (-1) ≤ 131072 ∨ (16 ≤ S 152 (-1) ∧ S 152 (-1) ≤ 262143 ∧ tn + 2 ≤ S 152 (-1))) (hky : S 228 (h - 1) = ky) (hvy : S 229 (h - 1) = vy) (hkr : -128 ≤ ky ∧ ky ≤ 127) (hvr : -9223372036854775808 ≤ vy ∧ vy ≤ 9223372036854775807) (hmf : S 112 m = fl) (hfl : 0 ≤ fl ∧ fl < 400) (hstt : S 99 fl = 0) (hfi : S 112 fl = fi) (l10 : S 158 10 = gb) (hmt : S 100 m = ty) (hmc : S 101 m = 0) (hth : ∀ x : Nat, x < 10 → S (127 + x) (-1) = S 127 (-1)) (hn2 : S 127 (-1) ≤ 16383) (hl14 : S 142 (-1) = S 141 (-1)) (hz14 : 16 ≤ S 141 (-1) ∧ S 141 (-1) ≤ 480400) (hgb : 0 ≤ gb ∧ gb < S 127 (-1)) (hst : S 133 gb = st) (hrb : 0 ≤ st ∧ 0 ≤ fi ∧ fi ≤ 1000 ∧ st + fi < S 141 (-1)) (hvk : S 141 (st + fi) = vk) (hvb : S 142 (st + fi) = vb) (hvr2 : -128 ≤ vk ∧ vk ≤ 127) (hvs : -9223372036854775808 ≤ vb ∧ vb ≤ 9223372036854775807) : wJ (pe_GA xs) wY0 (mS [228, 229, 152]) (d + 6) t_XL_callMember ((pe_at t_XL_callMember.bl 0).getD (0, [])).2 [(0, (2, 158)), (1, (0, m))] [] S (fun o Z => o = .inl none ∧ ((100000 < tn + 2 ∧ w_up S 226 16 99 = Z) ∨ (¬ (100000 < tn + 2) ∧ cmE 226 h c p (h - ba) kd ky vy vk vb m en gvR S Z))) := by
  obtain ⟨⟨hC, hI⟩, ⟨bc, bc0, bc1⟩, ⟨bp, bp0, bp1⟩, ⟨bh, bh0, bh1, bh2⟩, bl1, bl2, bl3⟩ := hP
  replace bp : S 231 (c - 1) = p := bp
  replace bh : S 227 2 = h := bh
  replace bh2 : h ≤ S 228 (-1) := bh2
  replace bl1 : S 229 (-1) = S 228 (-1) := bl1
  replace bl2 : 64 ≤ S 228 (-1) := bl2
  replace bl3 : S 228 (-1) ≤ 4095 := bl3
  refine wa_aload_n (n := 0) rfl ?_
  refine wb_gf4 158 rfl (wy_pr rfl) wt_158 wf_5_0 (v := 72) wl_158_0 ?_
  refine wb_gf5 72 rfl (wy_pr rfl) wt_72 wf_2_1 (v := 73) (h72) (fun r1 => ?_)
  refine wa_astore_n (n := 2) rfl ?_
  refine wa_aload_n (n := 2) rfl ?_
  refine wb_gf4 73 rfl (wy_pr rfl) wt_73 wf_3_3 (v := 96) wl_73_3 ?_
  refine wa_iconst ?_
  refine wb_aald5 96 1 rfl rfl (wy_pr rfl) wt_96 (by rw [show _ = _ from ((cl_96 hC))]; omega) wl_96_1 ?_
  refine wa_iload_n (n := 1) rfl ?_
  refine wb_iald 98 rfl (wy_pr rfl) wt_98 (n := 400) ((cl_98 hC)) (by omega) (by omega) (v := 1) (hso) (fun r2 => ?_)
  refine wa_iconst ?_
  refine wa_icmpne (w_rg0 (by omega) (by omega)) (w_rg0 (by omega) (by omega)) ⟨_, rfl⟩ (fun c3 => ?_) (fun c3 => ?_)
  · skip
    refine wa_iconst ?_
    refine wa_fall ⟨_, rfl⟩ ?_
    refine wa_istore_n (n := 3) rfl ?_
    refine wa_iload_n (n := 3) rfl ?_
    refine wa_ifne (w_rg0 (by omega) (by omega)) ⟨_, rfl⟩ (fun c4 => ?_) (fun c4 => ?_)
    · skip
      exact absurd c4 (by omega)
    · skip
      refine wa_aload_n (n := 2) rfl ?_
      refine wb_gf4 73 rfl (wy_pr rfl) wt_73 wf_3_3 (v := 96) wl_73_3 ?_
      refine wa_iconst ?_
      refine wb_aald5 96 3 rfl rfl (wy_pr rfl) wt_96 (by rw [show _ = _ from ((cl_96 hC))]; omega) wl_96_3 ?_
      refine wa_iload_n (n := 1) rfl ?_
      refine wb_iald 100 rfl (wy_pr rfl) wt_100 (n := 400) ((cl_100 hC)) (by omega) (by omega) (v := ty) (hmt) (fun r5 => ?_)
      refine wa_bipush (w_rg2 (by omega) (by omega)) ?_
      refine wa_icmpne (w_rg0 (by omega) (by omega)) (w_rg0 (by omega) (by omega)) ⟨_, rfl⟩ (fun c6 => ?_) (fun c6 => ?_)
      · skip
        refine wa_iconst ?_
        refine wa_fall ⟨_, rfl⟩ ?_
        refine wa_istore (n := 4) rfl ?_
        refine wa_iload_n (n := 3) rfl ?_
        refine wa_ifeq (w_rg0 (by omega) (by omega)) ⟨_, rfl⟩ (fun c7 => ?_) (fun c7 => ?_)
        · skip
          refine wa_iconst ?_
          refine wa_fall ⟨_, rfl⟩ ?_
          refine wa_istore (n := 5) rfl ?_
          refine wa_aload_n (n := 0) rfl ?_
          refine wb_gf4 158 rfl (wy_pr rfl) wt_158 wf_5_0 (v := 72) wl_158_0 ?_
          refine wb_gfi 72 rfl (wy_pr rfl) wt_72 wf_2_15 (v := tn) (ht15) (fun r8 => ?_)
          refine wa_iconst ?_
          refine wa_iadd ?_
          refine wb_ki (n := 100000) rfl ?_
          refine wa_icmpgt (w_rg0 (by omega) (by omega)) (w_rg0 (by omega) (by omega)) ⟨_, rfl⟩ (fun c9 => ?_) (fun c9 => ?_)
          · skip
            refine wa_aload_n (n := 0) rfl ?_
            refine wb_gf5 158 rfl (wy_pr rfl) wt_158 wf_5_4 (v := 226) (l4) (fun r10 => ?_)
            refine wa_bipush (w_rg2 (by omega) (by omega)) ?_
            refine wb_pfi 226 rfl (wy_pr rfl) wt_226 wf_8_16 (n := 16) rfl ⟨(by omega), (by omega)⟩ ?_
            refine wa_return rfl ?_
            exact ⟨rfl, Or.inl ⟨by omega, rfl⟩⟩
          · skip
            refine wa_iload_n (n := 3) rfl ?_
            refine wa_ifeq (w_rg0 (by omega) (by omega)) ⟨_, rfl⟩ (fun c11 => ?_) (fun c11 => ?_)
            · skip
              refine wa_iload (n := 4) rfl ?_
              refine wa_ifeq (w_rg0 (by omega) (by omega)) ⟨_, rfl⟩ (fun c12 => ?_) (fun c12 => ?_)
              · skip
                refine wa_aload_n (n := 0) rfl ?_
                refine wb_gf4 158 rfl (wy_pr rfl) wt_158 wf_5_0 (v := 72) wl_158_0 ?_
                refine wa_iload_n (n := 1) rfl ?_
                refine wa_aload_n (n := 0) rfl ?_
                refine wb_gfi 158 rfl (wy_pr rfl) wt_158 wf_5_12 (v := en) (l12) (fun r13 => ?_)
                refine wa_cv 72 rfl (wy_pr rfl) wt_72 (M2 := mS [152]) rfl at_XH_addTrace ⟨_, rfl⟩ rfl rfl ⟨trivial, trivial, trivial, (Or.inr ⟨wy_pr rfl, mS_no rfl⟩), (Or.inr ⟨wy_pr rfl, mS_no rfl⟩), trivial, trivial⟩ trivial (fun _ _ q => mS_sub (by decide) q) (tra (S := S) (m := m) (k := en) hI ⟨by omega, by omega⟩ ⟨by omega, by omega⟩ (by rw [ht15]; exact ht0) (by rw [ht15]; exact ht9)) (fun oq14 Sq14 hp15 q14 => ?_)
                rcases q14 with ⟨rfl, tr14⟩
                show wJ _ _ _ _ _ _ _ _ _ _
                refine wa_aload_n (n := 0) rfl ?_
                refine wa_iconst ?_
                refine wb_pfi 158 rfl (wy_pr rfl) wt_158 wf_5_16 (n := 16) rfl ⟨(by omega), (by omega)⟩ ?_
                refine wa_aload_n (n := 0) rfl ?_
                refine wb_lconst (m := 0) rfl ?_
                refine wb_pfl 158 rfl (wy_pr rfl) wt_158 wf_5_17 (n := 17) rfl ⟨(by omega), (by omega)⟩ ?_
                refine wa_iload_n (n := 3) rfl ?_
                refine wa_ifeq (w_rg0 (by omega) (by omega)) ⟨_, rfl⟩ (fun c16 => ?_) (fun c16 => ?_)
                · skip
                  refine wa_aload_n (n := 2) rfl ?_
                  refine wb_gf4 73 rfl (wy_pr rfl) wt_73 wf_3_3 (v := 96) wl_73_3 ?_
                  refine wa_bipush (w_rg2 (by omega) (by omega)) ?_
                  refine wb_aald5 96 15 rfl rfl (wy_pr rfl) wt_96 (by rw [show _ = _ from ((w_up_slot (by decide)).trans ((w_up_slot (by decide)).trans (((tr14.2.2.2.1 96 (-1) (by decide) (by decide) (by decide) (Or.inl (by decide))).trans ((cl_96 hC))))))]; omega) wl_96_15 ?_
                  refine wa_iload_n (n := 1) rfl ?_
                  refine wb_iald 112 rfl (wy_pr rfl) wt_112 (n := 400) ((w_up_slot (by decide)).trans ((w_up_slot (by decide)).trans (((tr14.2.2.2.1 112 (-1) (by decide) (by decide) (by decide) (Or.inl (by decide))).trans ((cl_112 hC)))))) (by omega) (by omega) (v := fl) ((w_up_slot (by decide)).trans ((w_up_slot (by decide)).trans (((tr14.2.2.2.1 112 m (by decide) (by decide) (by decide) (Or.inl (by decide))).trans (hmf))))) (fun r17 => ?_)
                  refine wa_iconst ?_
                  refine wa_icmpeq (w_rg0 (by omega) (by omega)) (w_rg0 (by omega) (by omega)) ⟨_, rfl⟩ (fun c18 => ?_) (fun c18 => ?_)
                  · skip
                    exact absurd c18 (by omega)
                  · skip
                    refine wa_aload_n (n := 0) rfl ?_
                    refine wa_iload_n (n := 1) rfl ?_
                    refine wa_aload_n (n := 2) rfl ?_
                    refine wb_gf4 73 rfl (wy_pr rfl) wt_73 wf_3_3 (v := 96) wl_73_3 ?_
                    refine wa_bipush (w_rg2 (by omega) (by omega)) ?_
                    refine wb_aald5 96 15 rfl rfl (wy_pr rfl) wt_96 (by rw [show _ = _ from ((w_up_slot (by decide)).trans ((w_up_slot (by decide)).trans (((tr14.2.2.2.1 96 (-1) (by decide) (by decide) (by decide) (Or.inl (by decide))).trans ((cl_96 hC))))))]; omega) wl_96_15 ?_
                    refine wa_iload_n (n := 1) rfl ?_
                    refine wb_iald 112 rfl (wy_pr rfl) wt_112 (n := 400) ((w_up_slot (by decide)).trans ((w_up_slot (by decide)).trans (((tr14.2.2.2.1 112 (-1) (by decide) (by decide) (by decide) (Or.inl (by decide))).trans ((cl_112 hC)))))) (by omega) (by omega) (v := fl) ((w_up_slot (by decide)).trans ((w_up_slot (by decide)).trans (((tr14.2.2.2.1 112 m (by decide) (by decide) (by decide) (Or.inl (by decide))).trans (hmf))))) (fun r19 => ?_)
                    have hf2 : ∀ (j : Nat) (i : Int), j < 4000000 → j ≠ wG → j ≠ 152 → j ≠ 72 → j ≠ 158 → (w_up (w_up Sq14 158 16 0) 158 17 0) j i = S j i := fun j i a b c d e => (w_up_no (fun z => e z.1)).trans ((w_up_no (fun z => e z.1)).trans (tr14.2.2.2.1 j i a b c (Or.inl d)))
                    have el : (w_up (w_up Sq14 158 16 0) 158 17 0) 141 (-1) = S 141 (-1) := (hf2 141 _ (by first | decide | omega) (by first | decide | omega) (by first | decide | omega) (by first | decide | omega) (by first | decide | omega))
                    have el2 : (w_up (w_up Sq14 158 16 0) 158 17 0) 142 (-1) = S 142 (-1) := (hf2 142 _ (by first | decide | omega) (by first | decide | omega) (by first | decide | omega) (by first | decide | omega) (by first | decide | omega))
                    have el3 : (w_up (w_up Sq14 158 16 0) 158 17 0) 127 (-1) = S 127 (-1) := (hf2 127 _ (by first | decide | omega) (by first | decide | omega) (by first | decide | omega) (by first | decide | omega) (by first | decide | omega))
                    refine wa_cv 158 rfl (wy_pr rfl) wt_158 (M2 := fun _ => False) rfl at_XL_useField ⟨_, rfl⟩ rfl rfl ⟨trivial, trivial, trivial, (Or.inr ⟨wy_pr rfl, fun q => q⟩), (Or.inr ⟨wy_pr rfl, fun q => q⟩), trivial, trivial⟩ trivial (fun _ _ q => False.elim q) (usg0_73_226 (S := (w_up (w_up Sq14 158 16 0) 158 17 0)) (m := m) (f := fl) (w_CL_up (w_CL_up (CL_tr hC tr14) (by omega)) (by omega)) ((w_up_slot (by decide)).trans ((w_up_slot (by decide)).trans (((tr14.2.2.2.1 72 1 (by decide) (by decide) (by decide) (Or.inr (by decide))).trans (h72))))) ((w_up_at (by decide)).trans ((w_up_at (by decide)).trans (((tr14.2.2.2.1 158 5 (by decide) (by decide) (by decide) (Or.inl (by decide))).trans (l5))))) ((w_up_at (by decide)).trans ((w_up_at (by decide)).trans (((tr14.2.2.2.1 158 8 (by decide) (by decide) (by decide) (Or.inl (by decide))).trans (l8))))) (((w_up_at (by decide)).trans ((w_up_at (by decide)).trans ((tr14.2.2.2.1 158 10 (by decide) (by decide) (by decide) (Or.inl (by decide)))))).trans l10) hm hfl ((hf2 99 _ (by decide) (by decide) (by decide) (by decide) (by decide)).trans hstt) ((hf2 112 _ (by decide) (by decide) (by decide) (by decide) (by decide)).trans hfi) (fun x hx => by rw [hf2 (127 + x) (-1) (by omega) (by unfold wG; omega) (by omega) (by omega) (by omega), el3]; exact hth x hx) (by rw [el3]; exact hn2) (by rw [el, el2]; exact hl14) (by rw [el]; exact hz14) (by rw [el3]; exact hgb) ((hf2 133 _ (by decide) (by decide) (by decide) (by decide) (by decide)).trans hst) (by rw [el]; exact hrb) ((hf2 101 _ (by decide) (by decide) (by decide) (by decide) (by decide)).trans hmc) ((hf2 141 _ (by decide) (by decide) (by decide) (by decide) (by decide)).trans hvk) ((hf2 142 _ (by decide) (by decide) (by decide) (by decide) (by decide)).trans hvb)) (fun oq20 Sq20 hp21 q20 => ?_)
                    rcases q20 with ⟨rfl, rfl⟩
                    show wJ _ _ _ _ _ _ _ _ _ _
                    refine wa_goto ⟨_, rfl⟩ ?_
                    refine wa_aload_n (n := 0) rfl ?_
                    refine wb_gfi 158 rfl (wy_pr rfl) wt_158 wf_5_7 (v := kd) ((w_up_at (by decide)).trans ((w_up_at (by decide)).trans ((w_up_at (by decide)).trans ((w_up_at (by decide)).trans (((tr14.2.2.2.1 158 7 (by decide) (by decide) (by decide) (Or.inl (by decide))).trans (l7))))))) (fun r22 => ?_)
                    refine wa_iconst ?_
                    refine wa_icmpne (w_rg0 (by omega) (by omega)) (w_rg0 (by omega) (by omega)) ⟨_, rfl⟩ (fun c23 => ?_) (fun c23 => ?_)
                    · skip
                      refine wa_aload_n (n := 0) rfl ?_
                      refine wa_aload_n (n := 0) rfl ?_
                      refine wb_gfi 158 rfl (wy_pr rfl) wt_158 wf_5_16 (v := vk) ((w_up_at (by decide)).trans (w_up_same _ _ _ _)) (fun r24 => ?_)
                      refine wa_aload_n (n := 0) rfl ?_
                      refine wb_gfl 158 rfl (wy_pr rfl) wt_158 wf_5_17 (v := vb) (w_up_same _ _ _ _) (fun r25 => ?_)
                      refine wa_cv 158 rfl (wy_pr rfl) wt_158 (M2 := mS [228, 229]) rfl at_XL_giveValue ⟨_, rfl⟩ rfl rfl ⟨trivial, trivial, trivial, (Or.inr ⟨wy_pr rfl, mS_no rfl⟩), (Or.inr ⟨wy_pr rfl, mS_no rfl⟩), trivial, trivial⟩ trivial (fun _ _ q => mS_sub (by decide) q) (glx_226 (S := (w_up (w_up (w_up (w_up Sq14 158 16 0) 158 17 0) 158 16 vk) 158 17 vb)) (k := vk) (v := vb) (h := h) (c := c) (p := p) (ba := ba) (w_CL_up (w_CL_up (w_CL_up (w_CL_up (CL_tr hC tr14) (by omega)) (by omega)) (by omega)) (by omega)) (gI_up (gI_up (gI_up (gI_up tr14.2.2.2.2.2.1 (by omega) (by omega) (by omega)) (by omega) (by omega) (by omega)) (by omega) (by omega) (by omega)) (by omega) (by omega) (by omega)) ((w_up_at (by decide)).trans ((w_up_at (by decide)).trans ((w_up_at (by decide)).trans ((w_up_at (by decide)).trans (((tr14.2.2.2.1 158 4 (by decide) (by decide) (by decide) (Or.inl (by decide))).trans (l4))))))) ((w_up_at (by decide)).trans ((w_up_at (by decide)).trans ((w_up_at (by decide)).trans ((w_up_at (by decide)).trans (((tr14.2.2.2.1 158 5 (by decide) (by decide) (by decide) (Or.inl (by decide))).trans (l5))))))) ((w_up_at (by decide)).trans ((w_up_at (by decide)).trans ((w_up_at (by decide)).trans ((w_up_at (by decide)).trans (((tr14.2.2.2.1 158 8 (by decide) (by decide) (by decide) (Or.inl (by decide))).trans (l8))))))) ((w_up_slot (by decide)).trans ((w_up_slot (by decide)).trans ((w_up_slot (by decide)).trans ((w_up_slot (by decide)).trans (((tr14.2.2.2.1 226 4 (by decide) (by decide) (by decide) (Or.inl (by decide))).trans (bc))))))) ((w_up_slot (by decide)).trans ((w_up_slot (by decide)).trans ((w_up_slot (by decide)).trans ((w_up_slot (by decide)).trans (((tr14.2.2.2.1 231 (c - 1) (by decide) (by decide) (by decide) (Or.inl (by decide))).trans (bp))))))) ((((w_up_slot (by decide)).trans ((w_up_slot (by decide)).trans ((w_up_slot (by decide)).trans ((w_up_slot (by decide)).trans (((tr14.2.2.2.1 229 (-1) (by decide) (by decide) (by decide) (Or.inl (by decide))).trans (bl1)))))))).trans (((w_up_slot (by decide)).trans ((w_up_slot (by decide)).trans ((w_up_slot (by decide)).trans ((w_up_slot (by decide)).trans (((tr14.2.2.2.1 228 (-1) (by decide) (by decide) (by decide) (Or.inl (by decide))).trans (rfl)))))))).symm) (by have e : (w_up (w_up (w_up (w_up Sq14 158 16 0) 158 17 0) 158 16 vk) 158 17 vb) 228 (-1) = S 228 (-1) := ((w_up_slot (by decide)).trans ((w_up_slot (by decide)).trans ((w_up_slot (by decide)).trans ((w_up_slot (by decide)).trans (((tr14.2.2.2.1 228 (-1) (by decide) (by decide) (by decide) (Or.inl (by decide))).trans (rfl))))))); rw [e]; exact ⟨bl2, bl3⟩) (by have e : (w_up (w_up (w_up (w_up Sq14 158 16 0) 158 17 0) 158 16 vk) 158 17 vb) 228 (-1) = S 228 (-1) := ((w_up_slot (by decide)).trans ((w_up_slot (by decide)).trans ((w_up_slot (by decide)).trans ((w_up_slot (by decide)).trans (((tr14.2.2.2.1 228 (-1) (by decide) (by decide) (by decide) (Or.inl (by decide))).trans (rfl))))))); omega) ⟨by omega, by omega⟩ ⟨by omega, by omega⟩ ⟨by omega, by omega⟩ ⟨by omega, by omega⟩) (fun oq26 Sq26 hp27 q26 => ?_)
                      rcases q26 with ⟨rfl, hgv26⟩
                      show wJ _ _ _ _ _ _ _ _ _ _
                      refine wa_return rfl ?_
                      refine ⟨rfl, Or.inr ⟨by omega, Sq14, (w_up (w_up (w_up (w_up Sq14 158 16 0) 158 17 0) 158 16 vk) 158 17 vb), tr14, ?_, ?_⟩⟩
                      · exact fun j i hji => (w_up_no (by omega)).trans ((w_up_no (by omega)).trans ((w_up_no (by omega)).trans ((w_up_no (by omega)).trans (rfl))))
                      · first | (rw [if_pos (show kd = 1 by omega), if_pos (show kd = 1 by omega)]; exact hgv26) | (rw [if_neg (show ¬ kd = 1 by omega), if_neg (show ¬ kd = 1 by omega)]; exact hgv26)
                    · skip
                      refine wa_aload_n (n := 0) rfl ?_
                      refine wa_aload_n (n := 0) rfl ?_
                      refine wb_gf5 158 rfl (wy_pr rfl) wt_158 wf_5_5 (v := 227) ((w_up_at (by decide)).trans ((w_up_at (by decide)).trans ((w_up_at (by decide)).trans ((w_up_at (by decide)).trans (((tr14.2.2.2.1 158 5 (by decide) (by decide) (by decide) (Or.inl (by decide))).trans (l5))))))) (fun r28 => ?_)
                      refine wb_gf4 227 rfl (wy_pr rfl) wt_227 wf_7_0 (v := 228) wl_227_0 ?_
                      refine wa_aload_n (n := 0) rfl ?_
                      refine wb_gf5 158 rfl (wy_pr rfl) wt_158 wf_5_5 (v := 227) ((w_up_at (by decide)).trans ((w_up_at (by decide)).trans ((w_up_at (by decide)).trans ((w_up_at (by decide)).trans (((tr14.2.2.2.1 158 5 (by decide) (by decide) (by decide) (Or.inl (by decide))).trans (l5))))))) (fun r29 => ?_)
                      refine wb_gfi 227 rfl (wy_pr rfl) wt_227 wf_7_2 (v := h) ((w_up_slot (by decide)).trans ((w_up_slot (by decide)).trans ((w_up_slot (by decide)).trans ((w_up_slot (by decide)).trans (((tr14.2.2.2.1 227 2 (by decide) (by decide) (by decide) (Or.inl (by decide))).trans (bh))))))) (fun r30 => ?_)
                      refine wa_iconst ?_
                      refine wa_isub ?_
                      refine wb_bald 228 rfl (wy_pr rfl) wt_228 (n := (S 228 (-1))) ((w_up_slot (by decide)).trans ((w_up_slot (by decide)).trans ((w_up_slot (by decide)).trans ((w_up_slot (by decide)).trans (((tr14.2.2.2.1 228 (-1) (by decide) (by decide) (by decide) (Or.inl (by decide))).trans (rfl))))))) (by omega) (by omega) (v := ky) ((w_up_slot (by decide)).trans ((w_up_slot (by decide)).trans ((w_up_slot (by decide)).trans ((w_up_slot (by decide)).trans (((tr14.2.2.2.1 228 (h - 1) (by decide) (by decide) (by decide) (Or.inl (by decide))).trans (hky))))))) (fun r31 => ?_)
                      refine wb_pfi 158 rfl (wy_pr rfl) wt_158 wf_5_16 (n := 16) rfl ⟨(by omega), (by omega)⟩ ?_
                      refine wa_aload_n (n := 0) rfl ?_
                      refine wa_aload_n (n := 0) rfl ?_
                      refine wb_gf5 158 rfl (wy_pr rfl) wt_158 wf_5_5 (v := 227) ((w_up_at (by decide)).trans ((w_up_at (by decide)).trans ((w_up_at (by decide)).trans ((w_up_at (by decide)).trans ((w_up_at (by decide)).trans (((tr14.2.2.2.1 158 5 (by decide) (by decide) (by decide) (Or.inl (by decide))).trans (l5)))))))) (fun r32 => ?_)
                      refine wb_gf4 227 rfl (wy_pr rfl) wt_227 wf_7_1 (v := 229) wl_227_1 ?_
                      refine wa_aload_n (n := 0) rfl ?_
                      refine wb_gf5 158 rfl (wy_pr rfl) wt_158 wf_5_5 (v := 227) ((w_up_at (by decide)).trans ((w_up_at (by decide)).trans ((w_up_at (by decide)).trans ((w_up_at (by decide)).trans ((w_up_at (by decide)).trans (((tr14.2.2.2.1 158 5 (by decide) (by decide) (by decide) (Or.inl (by decide))).trans (l5)))))))) (fun r33 => ?_)
                      refine wb_gfi 227 rfl (wy_pr rfl) wt_227 wf_7_2 (v := h) ((w_up_slot (by decide)).trans ((w_up_slot (by decide)).trans ((w_up_slot (by decide)).trans ((w_up_slot (by decide)).trans ((w_up_slot (by decide)).trans (((tr14.2.2.2.1 227 2 (by decide) (by decide) (by decide) (Or.inl (by decide))).trans (bh)))))))) (fun r34 => ?_)
                      refine wa_iconst ?_
                      refine wa_isub ?_
                      refine wb_lald 229 rfl (wy_pr rfl) wt_229 (n := (S 228 (-1))) ((w_up_slot (by decide)).trans ((w_up_slot (by decide)).trans ((w_up_slot (by decide)).trans ((w_up_slot (by decide)).trans ((w_up_slot (by decide)).trans (((tr14.2.2.2.1 229 (-1) (by decide) (by decide) (by decide) (Or.inl (by decide))).trans (bl1)))))))) (by omega) (by omega) (v := vy) ((w_up_slot (by decide)).trans ((w_up_slot (by decide)).trans ((w_up_slot (by decide)).trans ((w_up_slot (by decide)).trans ((w_up_slot (by decide)).trans (((tr14.2.2.2.1 229 (h - 1) (by decide) (by decide) (by decide) (Or.inl (by decide))).trans (hvy)))))))) (fun r35 => ?_)
                      refine wb_pfl 158 rfl (wy_pr rfl) wt_158 wf_5_17 (n := 17) rfl ⟨(by omega), (by omega)⟩ ?_
                      refine wa_fall ⟨_, rfl⟩ ?_
                      refine wa_aload_n (n := 0) rfl ?_
                      refine wa_aload_n (n := 0) rfl ?_
                      refine wb_gfi 158 rfl (wy_pr rfl) wt_158 wf_5_16 (v := ky) ((w_up_at (by decide)).trans (w_up_same _ _ _ _)) (fun r36 => ?_)
                      refine wa_aload_n (n := 0) rfl ?_
                      refine wb_gfl 158 rfl (wy_pr rfl) wt_158 wf_5_17 (v := vy) (w_up_same _ _ _ _) (fun r37 => ?_)
                      refine wa_cv 158 rfl (wy_pr rfl) wt_158 (M2 := mS [228, 229]) rfl at_XL_giveValue ⟨_, rfl⟩ rfl rfl ⟨trivial, trivial, trivial, (Or.inr ⟨wy_pr rfl, mS_no rfl⟩), (Or.inr ⟨wy_pr rfl, mS_no rfl⟩), trivial, trivial⟩ trivial (fun _ _ q => mS_sub (by decide) q) (glx_226 (S := (w_up (w_up (w_up (w_up (w_up (w_up Sq14 158 16 0) 158 17 0) 158 16 vk) 158 17 vb) 158 16 ky) 158 17 vy)) (k := ky) (v := vy) (h := h) (c := c) (p := p) (ba := ba) (w_CL_up (w_CL_up (w_CL_up (w_CL_up (w_CL_up (w_CL_up (CL_tr hC tr14) (by omega)) (by omega)) (by omega)) (by omega)) (by omega)) (by omega)) (gI_up (gI_up (gI_up (gI_up (gI_up (gI_up tr14.2.2.2.2.2.1 (by omega) (by omega) (by omega)) (by omega) (by omega) (by omega)) (by omega) (by omega) (by omega)) (by omega) (by omega) (by omega)) (by omega) (by omega) (by omega)) (by omega) (by omega) (by omega)) ((w_up_at (by decide)).trans ((w_up_at (by decide)).trans ((w_up_at (by decide)).trans ((w_up_at (by decide)).trans ((w_up_at (by decide)).trans ((w_up_at (by decide)).trans (((tr14.2.2.2.1 158 4 (by decide) (by decide) (by decide) (Or.inl (by decide))).trans (l4))))))))) ((w_up_at (by decide)).trans ((w_up_at (by decide)).trans ((w_up_at (by decide)).trans ((w_up_at (by decide)).trans ((w_up_at (by decide)).trans ((w_up_at (by decide)).trans (((tr14.2.2.2.1 158 5 (by decide) (by decide) (by decide) (Or.inl (by decide))).trans (l5))))))))) ((w_up_at (by decide)).trans ((w_up_at (by decide)).trans ((w_up_at (by decide)).trans ((w_up_at (by decide)).trans ((w_up_at (by decide)).trans ((w_up_at (by decide)).trans (((tr14.2.2.2.1 158 8 (by decide) (by decide) (by decide) (Or.inl (by decide))).trans (l8))))))))) ((w_up_slot (by decide)).trans ((w_up_slot (by decide)).trans ((w_up_slot (by decide)).trans ((w_up_slot (by decide)).trans ((w_up_slot (by decide)).trans ((w_up_slot (by decide)).trans (((tr14.2.2.2.1 226 4 (by decide) (by decide) (by decide) (Or.inl (by decide))).trans (bc))))))))) ((w_up_slot (by decide)).trans ((w_up_slot (by decide)).trans ((w_up_slot (by decide)).trans ((w_up_slot (by decide)).trans ((w_up_slot (by decide)).trans ((w_up_slot (by decide)).trans (((tr14.2.2.2.1 231 (c - 1) (by decide) (by decide) (by decide) (Or.inl (by decide))).trans (bp))))))))) ((((w_up_slot (by decide)).trans ((w_up_slot (by decide)).trans ((w_up_slot (by decide)).trans ((w_up_slot (by decide)).trans ((w_up_slot (by decide)).trans ((w_up_slot (by decide)).trans (((tr14.2.2.2.1 229 (-1) (by decide) (by decide) (by decide) (Or.inl (by decide))).trans (bl1)))))))))).trans (((w_up_slot (by decide)).trans ((w_up_slot (by decide)).trans ((w_up_slot (by decide)).trans ((w_up_slot (by decide)).trans ((w_up_slot (by decide)).trans ((w_up_slot (by decide)).trans (((tr14.2.2.2.1 228 (-1) (by decide) (by decide) (by decide) (Or.inl (by decide))).trans (rfl)))))))))).symm) (by have e : (w_up (w_up (w_up (w_up (w_up (w_up Sq14 158 16 0) 158 17 0) 158 16 vk) 158 17 vb) 158 16 ky) 158 17 vy) 228 (-1) = S 228 (-1) := ((w_up_slot (by decide)).trans ((w_up_slot (by decide)).trans ((w_up_slot (by decide)).trans ((w_up_slot (by decide)).trans ((w_up_slot (by decide)).trans ((w_up_slot (by decide)).trans (((tr14.2.2.2.1 228 (-1) (by decide) (by decide) (by decide) (Or.inl (by decide))).trans (rfl))))))))); rw [e]; exact ⟨bl2, bl3⟩) (by have e : (w_up (w_up (w_up (w_up (w_up (w_up Sq14 158 16 0) 158 17 0) 158 16 vk) 158 17 vb) 158 16 ky) 158 17 vy) 228 (-1) = S 228 (-1) := ((w_up_slot (by decide)).trans ((w_up_slot (by decide)).trans ((w_up_slot (by decide)).trans ((w_up_slot (by decide)).trans ((w_up_slot (by decide)).trans ((w_up_slot (by decide)).trans (((tr14.2.2.2.1 228 (-1) (by decide) (by decide) (by decide) (Or.inl (by decide))).trans (rfl))))))))); omega) ⟨by omega, by omega⟩ ⟨by omega, by omega⟩ ⟨by omega, by omega⟩ ⟨by omega, by omega⟩) (fun oq38 Sq38 hp39 q38 => ?_)
                      rcases q38 with ⟨rfl, hgv38⟩
                      show wJ _ _ _ _ _ _ _ _ _ _
                      refine wa_return rfl ?_
                      refine ⟨rfl, Or.inr ⟨by omega, Sq14, (w_up (w_up (w_up (w_up (w_up (w_up Sq14 158 16 0) 158 17 0) 158 16 vk) 158 17 vb) 158 16 ky) 158 17 vy), tr14, ?_, ?_⟩⟩
                      · exact fun j i hji => (w_up_no (by omega)).trans ((w_up_no (by omega)).trans ((w_up_no (by omega)).trans ((w_up_no (by omega)).trans ((w_up_no (by omega)).trans ((w_up_no (by omega)).trans (rfl))))))
                      · first | (rw [if_pos (show kd = 1 by omega), if_pos (show kd = 1 by omega)]; exact hgv38) | (rw [if_neg (show ¬ kd = 1 by omega), if_neg (show ¬ kd = 1 by omega)]; exact hgv38)
                · skip
                  exact absurd c16 (by omega)
              · skip
                exact absurd c12 (by omega)
            · skip
              exact absurd c11 (by omega)
        · skip
          exact absurd c7 (by omega)
      · skip
        refine wa_aload_n (n := 2) rfl ?_
        refine wb_gf4 73 rfl (wy_pr rfl) wt_73 wf_3_3 (v := 96) wl_73_3 ?_
        refine wa_bipush (w_rg2 (by omega) (by omega)) ?_
        refine wb_aald5 96 15 rfl rfl (wy_pr rfl) wt_96 (by rw [show _ = _ from ((cl_96 hC))]; omega) wl_96_15 ?_
        refine wa_iload_n (n := 1) rfl ?_
        refine wb_iald 112 rfl (wy_pr rfl) wt_112 (n := 400) ((cl_112 hC)) (by omega) (by omega) (v := fl) (hmf) (fun r40 => ?_)
        refine wa_iconst ?_
        refine wa_icmpne (w_rg0 (by omega) (by omega)) (w_rg0 (by omega) (by omega)) ⟨_, rfl⟩ (fun c41 => ?_) (fun c41 => ?_)
        · skip
          refine wa_iconst ?_
          refine wa_fall ⟨_, rfl⟩ ?_
          refine wa_istore (n := 4) rfl ?_
          refine wa_iload_n (n := 3) rfl ?_
          refine wa_ifeq (w_rg0 (by omega) (by omega)) ⟨_, rfl⟩ (fun c42 => ?_) (fun c42 => ?_)
          · skip
            refine wa_iconst ?_
            refine wa_fall ⟨_, rfl⟩ ?_
            refine wa_istore (n := 5) rfl ?_
            refine wa_aload_n (n := 0) rfl ?_
            refine wb_gf4 158 rfl (wy_pr rfl) wt_158 wf_5_0 (v := 72) wl_158_0 ?_
            refine wb_gfi 72 rfl (wy_pr rfl) wt_72 wf_2_15 (v := tn) (ht15) (fun r43 => ?_)
            refine wa_iconst ?_
            refine wa_iadd ?_
            refine wb_ki (n := 100000) rfl ?_
            refine wa_icmpgt (w_rg0 (by omega) (by omega)) (w_rg0 (by omega) (by omega)) ⟨_, rfl⟩ (fun c44 => ?_) (fun c44 => ?_)
            · skip
              refine wa_aload_n (n := 0) rfl ?_
              refine wb_gf5 158 rfl (wy_pr rfl) wt_158 wf_5_4 (v := 226) (l4) (fun r45 => ?_)
              refine wa_bipush (w_rg2 (by omega) (by omega)) ?_
              refine wb_pfi 226 rfl (wy_pr rfl) wt_226 wf_8_16 (n := 16) rfl ⟨(by omega), (by omega)⟩ ?_
              refine wa_return rfl ?_
              exact ⟨rfl, Or.inl ⟨by omega, rfl⟩⟩
            · skip
              refine wa_iload_n (n := 3) rfl ?_
              refine wa_ifeq (w_rg0 (by omega) (by omega)) ⟨_, rfl⟩ (fun c46 => ?_) (fun c46 => ?_)
              · skip
                refine wa_iload (n := 4) rfl ?_
                refine wa_ifeq (w_rg0 (by omega) (by omega)) ⟨_, rfl⟩ (fun c47 => ?_) (fun c47 => ?_)
                · skip
                  refine wa_aload_n (n := 0) rfl ?_
                  refine wb_gf4 158 rfl (wy_pr rfl) wt_158 wf_5_0 (v := 72) wl_158_0 ?_
                  refine wa_iload_n (n := 1) rfl ?_
                  refine wa_aload_n (n := 0) rfl ?_
                  refine wb_gfi 158 rfl (wy_pr rfl) wt_158 wf_5_12 (v := en) (l12) (fun r48 => ?_)
                  refine wa_cv 72 rfl (wy_pr rfl) wt_72 (M2 := mS [152]) rfl at_XH_addTrace ⟨_, rfl⟩ rfl rfl ⟨trivial, trivial, trivial, (Or.inr ⟨wy_pr rfl, mS_no rfl⟩), (Or.inr ⟨wy_pr rfl, mS_no rfl⟩), trivial, trivial⟩ trivial (fun _ _ q => mS_sub (by decide) q) (tra (S := S) (m := m) (k := en) hI ⟨by omega, by omega⟩ ⟨by omega, by omega⟩ (by rw [ht15]; exact ht0) (by rw [ht15]; exact ht9)) (fun oq49 Sq49 hp50 q49 => ?_)
                  rcases q49 with ⟨rfl, tr49⟩
                  show wJ _ _ _ _ _ _ _ _ _ _
                  refine wa_aload_n (n := 0) rfl ?_
                  refine wa_iconst ?_
                  refine wb_pfi 158 rfl (wy_pr rfl) wt_158 wf_5_16 (n := 16) rfl ⟨(by omega), (by omega)⟩ ?_
                  refine wa_aload_n (n := 0) rfl ?_
                  refine wb_lconst (m := 0) rfl ?_
                  refine wb_pfl 158 rfl (wy_pr rfl) wt_158 wf_5_17 (n := 17) rfl ⟨(by omega), (by omega)⟩ ?_
                  refine wa_iload_n (n := 3) rfl ?_
                  refine wa_ifeq (w_rg0 (by omega) (by omega)) ⟨_, rfl⟩ (fun c51 => ?_) (fun c51 => ?_)
                  · skip
                    refine wa_aload_n (n := 2) rfl ?_
                    refine wb_gf4 73 rfl (wy_pr rfl) wt_73 wf_3_3 (v := 96) wl_73_3 ?_
                    refine wa_bipush (w_rg2 (by omega) (by omega)) ?_
                    refine wb_aald5 96 15 rfl rfl (wy_pr rfl) wt_96 (by rw [show _ = _ from ((w_up_slot (by decide)).trans ((w_up_slot (by decide)).trans (((tr49.2.2.2.1 96 (-1) (by decide) (by decide) (by decide) (Or.inl (by decide))).trans ((cl_96 hC))))))]; omega) wl_96_15 ?_
                    refine wa_iload_n (n := 1) rfl ?_
                    refine wb_iald 112 rfl (wy_pr rfl) wt_112 (n := 400) ((w_up_slot (by decide)).trans ((w_up_slot (by decide)).trans (((tr49.2.2.2.1 112 (-1) (by decide) (by decide) (by decide) (Or.inl (by decide))).trans ((cl_112 hC)))))) (by omega) (by omega) (v := fl) ((w_up_slot (by decide)).trans ((w_up_slot (by decide)).trans (((tr49.2.2.2.1 112 m (by decide) (by decide) (by decide) (Or.inl (by decide))).trans (hmf))))) (fun r52 => ?_)
                    refine wa_iconst ?_
                    refine wa_icmpeq (w_rg0 (by omega) (by omega)) (w_rg0 (by omega) (by omega)) ⟨_, rfl⟩ (fun c53 => ?_) (fun c53 => ?_)
                    · skip
                      exact absurd c53 (by omega)
                    · skip
                      refine wa_aload_n (n := 0) rfl ?_
                      refine wa_iload_n (n := 1) rfl ?_
                      refine wa_aload_n (n := 2) rfl ?_
                      refine wb_gf4 73 rfl (wy_pr rfl) wt_73 wf_3_3 (v := 96) wl_73_3 ?_
                      refine wa_bipush (w_rg2 (by omega) (by omega)) ?_
                      refine wb_aald5 96 15 rfl rfl (wy_pr rfl) wt_96 (by rw [show _ = _ from ((w_up_slot (by decide)).trans ((w_up_slot (by decide)).trans (((tr49.2.2.2.1 96 (-1) (by decide) (by decide) (by decide) (Or.inl (by decide))).trans ((cl_96 hC))))))]; omega) wl_96_15 ?_
                      refine wa_iload_n (n := 1) rfl ?_
                      refine wb_iald 112 rfl (wy_pr rfl) wt_112 (n := 400) ((w_up_slot (by decide)).trans ((w_up_slot (by decide)).trans (((tr49.2.2.2.1 112 (-1) (by decide) (by decide) (by decide) (Or.inl (by decide))).trans ((cl_112 hC)))))) (by omega) (by omega) (v := fl) ((w_up_slot (by decide)).trans ((w_up_slot (by decide)).trans (((tr49.2.2.2.1 112 m (by decide) (by decide) (by decide) (Or.inl (by decide))).trans (hmf))))) (fun r54 => ?_)
                      have hf2 : ∀ (j : Nat) (i : Int), j < 4000000 → j ≠ wG → j ≠ 152 → j ≠ 72 → j ≠ 158 → (w_up (w_up Sq49 158 16 0) 158 17 0) j i = S j i := fun j i a b c d e => (w_up_no (fun z => e z.1)).trans ((w_up_no (fun z => e z.1)).trans (tr49.2.2.2.1 j i a b c (Or.inl d)))
                      have el : (w_up (w_up Sq49 158 16 0) 158 17 0) 141 (-1) = S 141 (-1) := (hf2 141 _ (by first | decide | omega) (by first | decide | omega) (by first | decide | omega) (by first | decide | omega) (by first | decide | omega))
                      have el2 : (w_up (w_up Sq49 158 16 0) 158 17 0) 142 (-1) = S 142 (-1) := (hf2 142 _ (by first | decide | omega) (by first | decide | omega) (by first | decide | omega) (by first | decide | omega) (by first | decide | omega))
                      have el3 : (w_up (w_up Sq49 158 16 0) 158 17 0) 127 (-1) = S 127 (-1) := (hf2 127 _ (by first | decide | omega) (by first | decide | omega) (by first | decide | omega) (by first | decide | omega) (by first | decide | omega))
                      refine wa_cv 158 rfl (wy_pr rfl) wt_158 (M2 := fun _ => False) rfl at_XL_useField ⟨_, rfl⟩ rfl rfl ⟨trivial, trivial, trivial, (Or.inr ⟨wy_pr rfl, fun q => q⟩), (Or.inr ⟨wy_pr rfl, fun q => q⟩), trivial, trivial⟩ trivial (fun _ _ q => False.elim q) (usg0_73_226 (S := (w_up (w_up Sq49 158 16 0) 158 17 0)) (m := m) (f := fl) (w_CL_up (w_CL_up (CL_tr hC tr49) (by omega)) (by omega)) ((w_up_slot (by decide)).trans ((w_up_slot (by decide)).trans (((tr49.2.2.2.1 72 1 (by decide) (by decide) (by decide) (Or.inr (by decide))).trans (h72))))) ((w_up_at (by decide)).trans ((w_up_at (by decide)).trans (((tr49.2.2.2.1 158 5 (by decide) (by decide) (by decide) (Or.inl (by decide))).trans (l5))))) ((w_up_at (by decide)).trans ((w_up_at (by decide)).trans (((tr49.2.2.2.1 158 8 (by decide) (by decide) (by decide) (Or.inl (by decide))).trans (l8))))) (((w_up_at (by decide)).trans ((w_up_at (by decide)).trans ((tr49.2.2.2.1 158 10 (by decide) (by decide) (by decide) (Or.inl (by decide)))))).trans l10) hm hfl ((hf2 99 _ (by decide) (by decide) (by decide) (by decide) (by decide)).trans hstt) ((hf2 112 _ (by decide) (by decide) (by decide) (by decide) (by decide)).trans hfi) (fun x hx => by rw [hf2 (127 + x) (-1) (by omega) (by unfold wG; omega) (by omega) (by omega) (by omega), el3]; exact hth x hx) (by rw [el3]; exact hn2) (by rw [el, el2]; exact hl14) (by rw [el]; exact hz14) (by rw [el3]; exact hgb) ((hf2 133 _ (by decide) (by decide) (by decide) (by decide) (by decide)).trans hst) (by rw [el]; exact hrb) ((hf2 101 _ (by decide) (by decide) (by decide) (by decide) (by decide)).trans hmc) ((hf2 141 _ (by decide) (by decide) (by decide) (by decide) (by decide)).trans hvk) ((hf2 142 _ (by decide) (by decide) (by decide) (by decide) (by decide)).trans hvb)) (fun oq55 Sq55 hp56 q55 => ?_)
                      rcases q55 with ⟨rfl, rfl⟩
                      show wJ _ _ _ _ _ _ _ _ _ _
                      refine wa_goto ⟨_, rfl⟩ ?_
                      refine wa_aload_n (n := 0) rfl ?_
                      refine wb_gfi 158 rfl (wy_pr rfl) wt_158 wf_5_7 (v := kd) ((w_up_at (by decide)).trans ((w_up_at (by decide)).trans ((w_up_at (by decide)).trans ((w_up_at (by decide)).trans (((tr49.2.2.2.1 158 7 (by decide) (by decide) (by decide) (Or.inl (by decide))).trans (l7))))))) (fun r57 => ?_)
                      refine wa_iconst ?_
                      refine wa_icmpne (w_rg0 (by omega) (by omega)) (w_rg0 (by omega) (by omega)) ⟨_, rfl⟩ (fun c58 => ?_) (fun c58 => ?_)
                      · skip
                        refine wa_aload_n (n := 0) rfl ?_
                        refine wa_aload_n (n := 0) rfl ?_
                        refine wb_gfi 158 rfl (wy_pr rfl) wt_158 wf_5_16 (v := vk) ((w_up_at (by decide)).trans (w_up_same _ _ _ _)) (fun r59 => ?_)
                        refine wa_aload_n (n := 0) rfl ?_
                        refine wb_gfl 158 rfl (wy_pr rfl) wt_158 wf_5_17 (v := vb) (w_up_same _ _ _ _) (fun r60 => ?_)
                        refine wa_cv 158 rfl (wy_pr rfl) wt_158 (M2 := mS [228, 229]) rfl at_XL_giveValue ⟨_, rfl⟩ rfl rfl ⟨trivial, trivial, trivial, (Or.inr ⟨wy_pr rfl, mS_no rfl⟩), (Or.inr ⟨wy_pr rfl, mS_no rfl⟩), trivial, trivial⟩ trivial (fun _ _ q => mS_sub (by decide) q) (glx_226 (S := (w_up (w_up (w_up (w_up Sq49 158 16 0) 158 17 0) 158 16 vk) 158 17 vb)) (k := vk) (v := vb) (h := h) (c := c) (p := p) (ba := ba) (w_CL_up (w_CL_up (w_CL_up (w_CL_up (CL_tr hC tr49) (by omega)) (by omega)) (by omega)) (by omega)) (gI_up (gI_up (gI_up (gI_up tr49.2.2.2.2.2.1 (by omega) (by omega) (by omega)) (by omega) (by omega) (by omega)) (by omega) (by omega) (by omega)) (by omega) (by omega) (by omega)) ((w_up_at (by decide)).trans ((w_up_at (by decide)).trans ((w_up_at (by decide)).trans ((w_up_at (by decide)).trans (((tr49.2.2.2.1 158 4 (by decide) (by decide) (by decide) (Or.inl (by decide))).trans (l4))))))) ((w_up_at (by decide)).trans ((w_up_at (by decide)).trans ((w_up_at (by decide)).trans ((w_up_at (by decide)).trans (((tr49.2.2.2.1 158 5 (by decide) (by decide) (by decide) (Or.inl (by decide))).trans (l5))))))) ((w_up_at (by decide)).trans ((w_up_at (by decide)).trans ((w_up_at (by decide)).trans ((w_up_at (by decide)).trans (((tr49.2.2.2.1 158 8 (by decide) (by decide) (by decide) (Or.inl (by decide))).trans (l8))))))) ((w_up_slot (by decide)).trans ((w_up_slot (by decide)).trans ((w_up_slot (by decide)).trans ((w_up_slot (by decide)).trans (((tr49.2.2.2.1 226 4 (by decide) (by decide) (by decide) (Or.inl (by decide))).trans (bc))))))) ((w_up_slot (by decide)).trans ((w_up_slot (by decide)).trans ((w_up_slot (by decide)).trans ((w_up_slot (by decide)).trans (((tr49.2.2.2.1 231 (c - 1) (by decide) (by decide) (by decide) (Or.inl (by decide))).trans (bp))))))) ((((w_up_slot (by decide)).trans ((w_up_slot (by decide)).trans ((w_up_slot (by decide)).trans ((w_up_slot (by decide)).trans (((tr49.2.2.2.1 229 (-1) (by decide) (by decide) (by decide) (Or.inl (by decide))).trans (bl1)))))))).trans (((w_up_slot (by decide)).trans ((w_up_slot (by decide)).trans ((w_up_slot (by decide)).trans ((w_up_slot (by decide)).trans (((tr49.2.2.2.1 228 (-1) (by decide) (by decide) (by decide) (Or.inl (by decide))).trans (rfl)))))))).symm) (by have e : (w_up (w_up (w_up (w_up Sq49 158 16 0) 158 17 0) 158 16 vk) 158 17 vb) 228 (-1) = S 228 (-1) := ((w_up_slot (by decide)).trans ((w_up_slot (by decide)).trans ((w_up_slot (by decide)).trans ((w_up_slot (by decide)).trans (((tr49.2.2.2.1 228 (-1) (by decide) (by decide) (by decide) (Or.inl (by decide))).trans (rfl))))))); rw [e]; exact ⟨bl2, bl3⟩) (by have e : (w_up (w_up (w_up (w_up Sq49 158 16 0) 158 17 0) 158 16 vk) 158 17 vb) 228 (-1) = S 228 (-1) := ((w_up_slot (by decide)).trans ((w_up_slot (by decide)).trans ((w_up_slot (by decide)).trans ((w_up_slot (by decide)).trans (((tr49.2.2.2.1 228 (-1) (by decide) (by decide) (by decide) (Or.inl (by decide))).trans (rfl))))))); omega) ⟨by omega, by omega⟩ ⟨by omega, by omega⟩ ⟨by omega, by omega⟩ ⟨by omega, by omega⟩) (fun oq61 Sq61 hp62 q61 => ?_)
                        rcases q61 with ⟨rfl, hgv61⟩
                        show wJ _ _ _ _ _ _ _ _ _ _
                        refine wa_return rfl ?_
                        refine ⟨rfl, Or.inr ⟨by omega, Sq49, (w_up (w_up (w_up (w_up Sq49 158 16 0) 158 17 0) 158 16 vk) 158 17 vb), tr49, ?_, ?_⟩⟩
                        · exact fun j i hji => (w_up_no (by omega)).trans ((w_up_no (by omega)).trans ((w_up_no (by omega)).trans ((w_up_no (by omega)).trans (rfl))))
                        · first | (rw [if_pos (show kd = 1 by omega), if_pos (show kd = 1 by omega)]; exact hgv61) | (rw [if_neg (show ¬ kd = 1 by omega), if_neg (show ¬ kd = 1 by omega)]; exact hgv61)
                      · skip
                        refine wa_aload_n (n := 0) rfl ?_
                        refine wa_aload_n (n := 0) rfl ?_
                        refine wb_gf5 158 rfl (wy_pr rfl) wt_158 wf_5_5 (v := 227) ((w_up_at (by decide)).trans ((w_up_at (by decide)).trans ((w_up_at (by decide)).trans ((w_up_at (by decide)).trans (((tr49.2.2.2.1 158 5 (by decide) (by decide) (by decide) (Or.inl (by decide))).trans (l5))))))) (fun r63 => ?_)
                        refine wb_gf4 227 rfl (wy_pr rfl) wt_227 wf_7_0 (v := 228) wl_227_0 ?_
                        refine wa_aload_n (n := 0) rfl ?_
                        refine wb_gf5 158 rfl (wy_pr rfl) wt_158 wf_5_5 (v := 227) ((w_up_at (by decide)).trans ((w_up_at (by decide)).trans ((w_up_at (by decide)).trans ((w_up_at (by decide)).trans (((tr49.2.2.2.1 158 5 (by decide) (by decide) (by decide) (Or.inl (by decide))).trans (l5))))))) (fun r64 => ?_)
                        refine wb_gfi 227 rfl (wy_pr rfl) wt_227 wf_7_2 (v := h) ((w_up_slot (by decide)).trans ((w_up_slot (by decide)).trans ((w_up_slot (by decide)).trans ((w_up_slot (by decide)).trans (((tr49.2.2.2.1 227 2 (by decide) (by decide) (by decide) (Or.inl (by decide))).trans (bh))))))) (fun r65 => ?_)
                        refine wa_iconst ?_
                        refine wa_isub ?_
                        refine wb_bald 228 rfl (wy_pr rfl) wt_228 (n := (S 228 (-1))) ((w_up_slot (by decide)).trans ((w_up_slot (by decide)).trans ((w_up_slot (by decide)).trans ((w_up_slot (by decide)).trans (((tr49.2.2.2.1 228 (-1) (by decide) (by decide) (by decide) (Or.inl (by decide))).trans (rfl))))))) (by omega) (by omega) (v := ky) ((w_up_slot (by decide)).trans ((w_up_slot (by decide)).trans ((w_up_slot (by decide)).trans ((w_up_slot (by decide)).trans (((tr49.2.2.2.1 228 (h - 1) (by decide) (by decide) (by decide) (Or.inl (by decide))).trans (hky))))))) (fun r66 => ?_)
                        refine wb_pfi 158 rfl (wy_pr rfl) wt_158 wf_5_16 (n := 16) rfl ⟨(by omega), (by omega)⟩ ?_
                        refine wa_aload_n (n := 0) rfl ?_
                        refine wa_aload_n (n := 0) rfl ?_
                        refine wb_gf5 158 rfl (wy_pr rfl) wt_158 wf_5_5 (v := 227) ((w_up_at (by decide)).trans ((w_up_at (by decide)).trans ((w_up_at (by decide)).trans ((w_up_at (by decide)).trans ((w_up_at (by decide)).trans (((tr49.2.2.2.1 158 5 (by decide) (by decide) (by decide) (Or.inl (by decide))).trans (l5)))))))) (fun r67 => ?_)
                        refine wb_gf4 227 rfl (wy_pr rfl) wt_227 wf_7_1 (v := 229) wl_227_1 ?_
                        refine wa_aload_n (n := 0) rfl ?_
                        refine wb_gf5 158 rfl (wy_pr rfl) wt_158 wf_5_5 (v := 227) ((w_up_at (by decide)).trans ((w_up_at (by decide)).trans ((w_up_at (by decide)).trans ((w_up_at (by decide)).trans ((w_up_at (by decide)).trans (((tr49.2.2.2.1 158 5 (by decide) (by decide) (by decide) (Or.inl (by decide))).trans (l5)))))))) (fun r68 => ?_)
                        refine wb_gfi 227 rfl (wy_pr rfl) wt_227 wf_7_2 (v := h) ((w_up_slot (by decide)).trans ((w_up_slot (by decide)).trans ((w_up_slot (by decide)).trans ((w_up_slot (by decide)).trans ((w_up_slot (by decide)).trans (((tr49.2.2.2.1 227 2 (by decide) (by decide) (by decide) (Or.inl (by decide))).trans (bh)))))))) (fun r69 => ?_)
                        refine wa_iconst ?_
                        refine wa_isub ?_
                        refine wb_lald 229 rfl (wy_pr rfl) wt_229 (n := (S 228 (-1))) ((w_up_slot (by decide)).trans ((w_up_slot (by decide)).trans ((w_up_slot (by decide)).trans ((w_up_slot (by decide)).trans ((w_up_slot (by decide)).trans (((tr49.2.2.2.1 229 (-1) (by decide) (by decide) (by decide) (Or.inl (by decide))).trans (bl1)))))))) (by omega) (by omega) (v := vy) ((w_up_slot (by decide)).trans ((w_up_slot (by decide)).trans ((w_up_slot (by decide)).trans ((w_up_slot (by decide)).trans ((w_up_slot (by decide)).trans (((tr49.2.2.2.1 229 (h - 1) (by decide) (by decide) (by decide) (Or.inl (by decide))).trans (hvy)))))))) (fun r70 => ?_)
                        refine wb_pfl 158 rfl (wy_pr rfl) wt_158 wf_5_17 (n := 17) rfl ⟨(by omega), (by omega)⟩ ?_
                        refine wa_fall ⟨_, rfl⟩ ?_
                        refine wa_aload_n (n := 0) rfl ?_
                        refine wa_aload_n (n := 0) rfl ?_
                        refine wb_gfi 158 rfl (wy_pr rfl) wt_158 wf_5_16 (v := ky) ((w_up_at (by decide)).trans (w_up_same _ _ _ _)) (fun r71 => ?_)
                        refine wa_aload_n (n := 0) rfl ?_
                        refine wb_gfl 158 rfl (wy_pr rfl) wt_158 wf_5_17 (v := vy) (w_up_same _ _ _ _) (fun r72 => ?_)
                        refine wa_cv 158 rfl (wy_pr rfl) wt_158 (M2 := mS [228, 229]) rfl at_XL_giveValue ⟨_, rfl⟩ rfl rfl ⟨trivial, trivial, trivial, (Or.inr ⟨wy_pr rfl, mS_no rfl⟩), (Or.inr ⟨wy_pr rfl, mS_no rfl⟩), trivial, trivial⟩ trivial (fun _ _ q => mS_sub (by decide) q) (glx_226 (S := (w_up (w_up (w_up (w_up (w_up (w_up Sq49 158 16 0) 158 17 0) 158 16 vk) 158 17 vb) 158 16 ky) 158 17 vy)) (k := ky) (v := vy) (h := h) (c := c) (p := p) (ba := ba) (w_CL_up (w_CL_up (w_CL_up (w_CL_up (w_CL_up (w_CL_up (CL_tr hC tr49) (by omega)) (by omega)) (by omega)) (by omega)) (by omega)) (by omega)) (gI_up (gI_up (gI_up (gI_up (gI_up (gI_up tr49.2.2.2.2.2.1 (by omega) (by omega) (by omega)) (by omega) (by omega) (by omega)) (by omega) (by omega) (by omega)) (by omega) (by omega) (by omega)) (by omega) (by omega) (by omega)) (by omega) (by omega) (by omega)) ((w_up_at (by decide)).trans ((w_up_at (by decide)).trans ((w_up_at (by decide)).trans ((w_up_at (by decide)).trans ((w_up_at (by decide)).trans ((w_up_at (by decide)).trans (((tr49.2.2.2.1 158 4 (by decide) (by decide) (by decide) (Or.inl (by decide))).trans (l4))))))))) ((w_up_at (by decide)).trans ((w_up_at (by decide)).trans ((w_up_at (by decide)).trans ((w_up_at (by decide)).trans ((w_up_at (by decide)).trans ((w_up_at (by decide)).trans (((tr49.2.2.2.1 158 5 (by decide) (by decide) (by decide) (Or.inl (by decide))).trans (l5))))))))) ((w_up_at (by decide)).trans ((w_up_at (by decide)).trans ((w_up_at (by decide)).trans ((w_up_at (by decide)).trans ((w_up_at (by decide)).trans ((w_up_at (by decide)).trans (((tr49.2.2.2.1 158 8 (by decide) (by decide) (by decide) (Or.inl (by decide))).trans (l8))))))))) ((w_up_slot (by decide)).trans ((w_up_slot (by decide)).trans ((w_up_slot (by decide)).trans ((w_up_slot (by decide)).trans ((w_up_slot (by decide)).trans ((w_up_slot (by decide)).trans (((tr49.2.2.2.1 226 4 (by decide) (by decide) (by decide) (Or.inl (by decide))).trans (bc))))))))) ((w_up_slot (by decide)).trans ((w_up_slot (by decide)).trans ((w_up_slot (by decide)).trans ((w_up_slot (by decide)).trans ((w_up_slot (by decide)).trans ((w_up_slot (by decide)).trans (((tr49.2.2.2.1 231 (c - 1) (by decide) (by decide) (by decide) (Or.inl (by decide))).trans (bp))))))))) ((((w_up_slot (by decide)).trans ((w_up_slot (by decide)).trans ((w_up_slot (by decide)).trans ((w_up_slot (by decide)).trans ((w_up_slot (by decide)).trans ((w_up_slot (by decide)).trans (((tr49.2.2.2.1 229 (-1) (by decide) (by decide) (by decide) (Or.inl (by decide))).trans (bl1)))))))))).trans (((w_up_slot (by decide)).trans ((w_up_slot (by decide)).trans ((w_up_slot (by decide)).trans ((w_up_slot (by decide)).trans ((w_up_slot (by decide)).trans ((w_up_slot (by decide)).trans (((tr49.2.2.2.1 228 (-1) (by decide) (by decide) (by decide) (Or.inl (by decide))).trans (rfl)))))))))).symm) (by have e : (w_up (w_up (w_up (w_up (w_up (w_up Sq49 158 16 0) 158 17 0) 158 16 vk) 158 17 vb) 158 16 ky) 158 17 vy) 228 (-1) = S 228 (-1) := ((w_up_slot (by decide)).trans ((w_up_slot (by decide)).trans ((w_up_slot (by decide)).trans ((w_up_slot (by decide)).trans ((w_up_slot (by decide)).trans ((w_up_slot (by decide)).trans (((tr49.2.2.2.1 228 (-1) (by decide) (by decide) (by decide) (Or.inl (by decide))).trans (rfl))))))))); rw [e]; exact ⟨bl2, bl3⟩) (by have e : (w_up (w_up (w_up (w_up (w_up (w_up Sq49 158 16 0) 158 17 0) 158 16 vk) 158 17 vb) 158 16 ky) 158 17 vy) 228 (-1) = S 228 (-1) := ((w_up_slot (by decide)).trans ((w_up_slot (by decide)).trans ((w_up_slot (by decide)).trans ((w_up_slot (by decide)).trans ((w_up_slot (by decide)).trans ((w_up_slot (by decide)).trans (((tr49.2.2.2.1 228 (-1) (by decide) (by decide) (by decide) (Or.inl (by decide))).trans (rfl))))))))); omega) ⟨by omega, by omega⟩ ⟨by omega, by omega⟩ ⟨by omega, by omega⟩ ⟨by omega, by omega⟩) (fun oq73 Sq73 hp74 q73 => ?_)
                        rcases q73 with ⟨rfl, hgv73⟩
                        show wJ _ _ _ _ _ _ _ _ _ _
                        refine wa_return rfl ?_
                        refine ⟨rfl, Or.inr ⟨by omega, Sq49, (w_up (w_up (w_up (w_up (w_up (w_up Sq49 158 16 0) 158 17 0) 158 16 vk) 158 17 vb) 158 16 ky) 158 17 vy), tr49, ?_, ?_⟩⟩
                        · exact fun j i hji => (w_up_no (by omega)).trans ((w_up_no (by omega)).trans ((w_up_no (by omega)).trans ((w_up_no (by omega)).trans ((w_up_no (by omega)).trans ((w_up_no (by omega)).trans (rfl))))))
                        · first | (rw [if_pos (show kd = 1 by omega), if_pos (show kd = 1 by omega)]; exact hgv73) | (rw [if_neg (show ¬ kd = 1 by omega), if_neg (show ¬ kd = 1 by omega)]; exact hgv73)
                  · skip
                    exact absurd c51 (by omega)
                · skip
                  exact absurd c47 (by omega)
              · skip
                exact absurd c46 (by omega)
          · skip
            exact absurd c42 (by omega)
        · skip
          exact absurd c41 (by omega)
  · skip
    exact absurd c3 (by omega)
set_option maxHeartbeats 4000000 in
theorem cms0_73_226 {c p h kd ba m en tn ky vy fl fi gb ty st k1 v1 : Int} (hP : xP 226 c p h S) (l4 : S 158 4 = 226) (l5 : S 158 5 = 227) (l7 : S 158 7 = kd) (l8 : S 158 8 = ba) (l12 : S 158 12 = en) (hen : 0 ≤ en ∧ en ≤ 1000) (hba : 0 ≤ ba ∧ ba < h) (h72 : S 72 1 = 73) (hm : 0 ≤ m ∧ m < 400) (hso : S 98 m = 1) (ht15 : S 72 15 = tn) (ht0 : 0 ≤ tn ∧ tn ≤ S 152 (-1) ∧ tn ≤ 100000) (ht9 : 16 ≤ S 152 (-1) ∧ S 152 (-1) ≤ 131072 ∨ (16 ≤ S 152 (-1) ∧ S 152 (-1) ≤ 262143 ∧ tn + 2 ≤ S 152 (-1))) (hky : S 228 (h - 1) = ky) (hvy : S 229 (h - 1) = vy) (hkr : -128 ≤ ky ∧ ky ≤ 127) (hvr : -9223372036854775808 ≤ vy ∧ vy ≤ 9223372036854775807) (hmf : S 112 m = fl) (hfl : 0 ≤ fl ∧ fl < 400) (hstt : S 99 fl = 0) (hfi : S 112 fl = fi) (l10 : S 158 10 = gb) (hmt : S 100 m = ty) (hmc : S 101 m = 1) (hth : ∀ x : Nat, x < 10 → S (127 + x) (-1) = S 127 (-1)) (hn2 : S 127 (-1) ≤ 16383) (hl14 : S 142 (-1) = S 141 (-1)) (hz14 : 16 ≤ S 141 (-1) ∧ S 141 (-1) ≤ 480400) (hgb : 0 ≤ gb ∧ gb < S 127 (-1)) (hst : S 133 gb = st) (hrb : 0 ≤ st ∧ 0 ≤ fi ∧ fi ≤ 1000 ∧ st + fi < S 141 (-1)) (hb1 : ba + 1 < h) (hk1 : S 228 (ba + 1) = k1) (hv1 : S 229 (ba + 1) = v1) : wJ (pe_GA xs) wY0 (mS [228, 229, 152]) (d + 6) t_XL_callMember ((pe_at t_XL_callMember.bl 0).getD (0, [])).2 [(0, (2, 158)), (1, (0, m))] [] S (fun o Z => o = .inl none ∧ ((100000 < tn + 2 ∧ w_up S 226 16 99 = Z) ∨ (¬ (100000 < tn + 2) ∧ cmE 226 h c p (h - ba) kd ky vy 0 0 m en (fun A B => gvR (w_up (w_up A 141 (st + fi) k1) 142 (st + fi) v1) B) S Z))) := by
  obtain ⟨⟨hC, hI⟩, ⟨bc, bc0, bc1⟩, ⟨bp, bp0, bp1⟩, ⟨bh, bh0, bh1, bh2⟩, bl1, bl2, bl3⟩ := hP
  replace bp : S 231 (c - 1) = p := bp
  replace bh : S 227 2 = h := bh
  replace bh2 : h ≤ S 228 (-1) := bh2
  replace bl1 : S 229 (-1) = S 228 (-1) := bl1
  replace bl2 : 64 ≤ S 228 (-1) := bl2
  replace bl3 : S 228 (-1) ≤ 4095 := bl3
  refine wa_aload_n (n := 0) rfl ?_
  refine wb_gf4 158 rfl (wy_pr rfl) wt_158 wf_5_0 (v := 72) wl_158_0 ?_
  refine wb_gf5 72 rfl (wy_pr rfl) wt_72 wf_2_1 (v := 73) (h72) (fun r1 => ?_)
  refine wa_astore_n (n := 2) rfl ?_
  refine wa_aload_n (n := 2) rfl ?_
  refine wb_gf4 73 rfl (wy_pr rfl) wt_73 wf_3_3 (v := 96) wl_73_3 ?_
  refine wa_iconst ?_
  refine wb_aald5 96 1 rfl rfl (wy_pr rfl) wt_96 (by rw [show _ = _ from ((cl_96 hC))]; omega) wl_96_1 ?_
  refine wa_iload_n (n := 1) rfl ?_
  refine wb_iald 98 rfl (wy_pr rfl) wt_98 (n := 400) ((cl_98 hC)) (by omega) (by omega) (v := 1) (hso) (fun r2 => ?_)
  refine wa_iconst ?_
  refine wa_icmpne (w_rg0 (by omega) (by omega)) (w_rg0 (by omega) (by omega)) ⟨_, rfl⟩ (fun c3 => ?_) (fun c3 => ?_)
  · skip
    refine wa_iconst ?_
    refine wa_fall ⟨_, rfl⟩ ?_
    refine wa_istore_n (n := 3) rfl ?_
    refine wa_iload_n (n := 3) rfl ?_
    refine wa_ifne (w_rg0 (by omega) (by omega)) ⟨_, rfl⟩ (fun c4 => ?_) (fun c4 => ?_)
    · skip
      exact absurd c4 (by omega)
    · skip
      refine wa_aload_n (n := 2) rfl ?_
      refine wb_gf4 73 rfl (wy_pr rfl) wt_73 wf_3_3 (v := 96) wl_73_3 ?_
      refine wa_iconst ?_
      refine wb_aald5 96 3 rfl rfl (wy_pr rfl) wt_96 (by rw [show _ = _ from ((cl_96 hC))]; omega) wl_96_3 ?_
      refine wa_iload_n (n := 1) rfl ?_
      refine wb_iald 100 rfl (wy_pr rfl) wt_100 (n := 400) ((cl_100 hC)) (by omega) (by omega) (v := ty) (hmt) (fun r5 => ?_)
      refine wa_bipush (w_rg2 (by omega) (by omega)) ?_
      refine wa_icmpne (w_rg0 (by omega) (by omega)) (w_rg0 (by omega) (by omega)) ⟨_, rfl⟩ (fun c6 => ?_) (fun c6 => ?_)
      · skip
        refine wa_iconst ?_
        refine wa_fall ⟨_, rfl⟩ ?_
        refine wa_istore (n := 4) rfl ?_
        refine wa_iload_n (n := 3) rfl ?_
        refine wa_ifeq (w_rg0 (by omega) (by omega)) ⟨_, rfl⟩ (fun c7 => ?_) (fun c7 => ?_)
        · skip
          refine wa_iconst ?_
          refine wa_fall ⟨_, rfl⟩ ?_
          refine wa_istore (n := 5) rfl ?_
          refine wa_aload_n (n := 0) rfl ?_
          refine wb_gf4 158 rfl (wy_pr rfl) wt_158 wf_5_0 (v := 72) wl_158_0 ?_
          refine wb_gfi 72 rfl (wy_pr rfl) wt_72 wf_2_15 (v := tn) (ht15) (fun r8 => ?_)
          refine wa_iconst ?_
          refine wa_iadd ?_
          refine wb_ki (n := 100000) rfl ?_
          refine wa_icmpgt (w_rg0 (by omega) (by omega)) (w_rg0 (by omega) (by omega)) ⟨_, rfl⟩ (fun c9 => ?_) (fun c9 => ?_)
          · skip
            refine wa_aload_n (n := 0) rfl ?_
            refine wb_gf5 158 rfl (wy_pr rfl) wt_158 wf_5_4 (v := 226) (l4) (fun r10 => ?_)
            refine wa_bipush (w_rg2 (by omega) (by omega)) ?_
            refine wb_pfi 226 rfl (wy_pr rfl) wt_226 wf_8_16 (n := 16) rfl ⟨(by omega), (by omega)⟩ ?_
            refine wa_return rfl ?_
            exact ⟨rfl, Or.inl ⟨by omega, rfl⟩⟩
          · skip
            refine wa_iload_n (n := 3) rfl ?_
            refine wa_ifeq (w_rg0 (by omega) (by omega)) ⟨_, rfl⟩ (fun c11 => ?_) (fun c11 => ?_)
            · skip
              refine wa_iload (n := 4) rfl ?_
              refine wa_ifeq (w_rg0 (by omega) (by omega)) ⟨_, rfl⟩ (fun c12 => ?_) (fun c12 => ?_)
              · skip
                refine wa_aload_n (n := 0) rfl ?_
                refine wb_gf4 158 rfl (wy_pr rfl) wt_158 wf_5_0 (v := 72) wl_158_0 ?_
                refine wa_iload_n (n := 1) rfl ?_
                refine wa_aload_n (n := 0) rfl ?_
                refine wb_gfi 158 rfl (wy_pr rfl) wt_158 wf_5_12 (v := en) (l12) (fun r13 => ?_)
                refine wa_cv 72 rfl (wy_pr rfl) wt_72 (M2 := mS [152]) rfl at_XH_addTrace ⟨_, rfl⟩ rfl rfl ⟨trivial, trivial, trivial, (Or.inr ⟨wy_pr rfl, mS_no rfl⟩), (Or.inr ⟨wy_pr rfl, mS_no rfl⟩), trivial, trivial⟩ trivial (fun _ _ q => mS_sub (by decide) q) (tra (S := S) (m := m) (k := en) hI ⟨by omega, by omega⟩ ⟨by omega, by omega⟩ (by rw [ht15]; exact ht0) (by rw [ht15]; exact ht9)) (fun oq14 Sq14 hp15 q14 => ?_)
                rcases q14 with ⟨rfl, tr14⟩
                show wJ _ _ _ _ _ _ _ _ _ _
                refine wa_aload_n (n := 0) rfl ?_
                refine wa_iconst ?_
                refine wb_pfi 158 rfl (wy_pr rfl) wt_158 wf_5_16 (n := 16) rfl ⟨(by omega), (by omega)⟩ ?_
                refine wa_aload_n (n := 0) rfl ?_
                refine wb_lconst (m := 0) rfl ?_
                refine wb_pfl 158 rfl (wy_pr rfl) wt_158 wf_5_17 (n := 17) rfl ⟨(by omega), (by omega)⟩ ?_
                refine wa_iload_n (n := 3) rfl ?_
                refine wa_ifeq (w_rg0 (by omega) (by omega)) ⟨_, rfl⟩ (fun c16 => ?_) (fun c16 => ?_)
                · skip
                  refine wa_aload_n (n := 2) rfl ?_
                  refine wb_gf4 73 rfl (wy_pr rfl) wt_73 wf_3_3 (v := 96) wl_73_3 ?_
                  refine wa_bipush (w_rg2 (by omega) (by omega)) ?_
                  refine wb_aald5 96 15 rfl rfl (wy_pr rfl) wt_96 (by rw [show _ = _ from ((w_up_slot (by decide)).trans ((w_up_slot (by decide)).trans (((tr14.2.2.2.1 96 (-1) (by decide) (by decide) (by decide) (Or.inl (by decide))).trans ((cl_96 hC))))))]; omega) wl_96_15 ?_
                  refine wa_iload_n (n := 1) rfl ?_
                  refine wb_iald 112 rfl (wy_pr rfl) wt_112 (n := 400) ((w_up_slot (by decide)).trans ((w_up_slot (by decide)).trans (((tr14.2.2.2.1 112 (-1) (by decide) (by decide) (by decide) (Or.inl (by decide))).trans ((cl_112 hC)))))) (by omega) (by omega) (v := fl) ((w_up_slot (by decide)).trans ((w_up_slot (by decide)).trans (((tr14.2.2.2.1 112 m (by decide) (by decide) (by decide) (Or.inl (by decide))).trans (hmf))))) (fun r17 => ?_)
                  refine wa_iconst ?_
                  refine wa_icmpeq (w_rg0 (by omega) (by omega)) (w_rg0 (by omega) (by omega)) ⟨_, rfl⟩ (fun c18 => ?_) (fun c18 => ?_)
                  · skip
                    exact absurd c18 (by omega)
                  · skip
                    refine wa_aload_n (n := 0) rfl ?_
                    refine wa_iload_n (n := 1) rfl ?_
                    refine wa_aload_n (n := 2) rfl ?_
                    refine wb_gf4 73 rfl (wy_pr rfl) wt_73 wf_3_3 (v := 96) wl_73_3 ?_
                    refine wa_bipush (w_rg2 (by omega) (by omega)) ?_
                    refine wb_aald5 96 15 rfl rfl (wy_pr rfl) wt_96 (by rw [show _ = _ from ((w_up_slot (by decide)).trans ((w_up_slot (by decide)).trans (((tr14.2.2.2.1 96 (-1) (by decide) (by decide) (by decide) (Or.inl (by decide))).trans ((cl_96 hC))))))]; omega) wl_96_15 ?_
                    refine wa_iload_n (n := 1) rfl ?_
                    refine wb_iald 112 rfl (wy_pr rfl) wt_112 (n := 400) ((w_up_slot (by decide)).trans ((w_up_slot (by decide)).trans (((tr14.2.2.2.1 112 (-1) (by decide) (by decide) (by decide) (Or.inl (by decide))).trans ((cl_112 hC)))))) (by omega) (by omega) (v := fl) ((w_up_slot (by decide)).trans ((w_up_slot (by decide)).trans (((tr14.2.2.2.1 112 m (by decide) (by decide) (by decide) (Or.inl (by decide))).trans (hmf))))) (fun r19 => ?_)
                    have hf2 : ∀ (j : Nat) (i : Int), j < 4000000 → j ≠ wG → j ≠ 152 → j ≠ 72 → j ≠ 158 → (w_up (w_up Sq14 158 16 0) 158 17 0) j i = S j i := fun j i a b c d e => (w_up_no (fun z => e z.1)).trans ((w_up_no (fun z => e z.1)).trans (tr14.2.2.2.1 j i a b c (Or.inl d)))
                    have el : (w_up (w_up Sq14 158 16 0) 158 17 0) 141 (-1) = S 141 (-1) := (hf2 141 _ (by first | decide | omega) (by first | decide | omega) (by first | decide | omega) (by first | decide | omega) (by first | decide | omega))
                    have el2 : (w_up (w_up Sq14 158 16 0) 158 17 0) 142 (-1) = S 142 (-1) := (hf2 142 _ (by first | decide | omega) (by first | decide | omega) (by first | decide | omega) (by first | decide | omega) (by first | decide | omega))
                    have el3 : (w_up (w_up Sq14 158 16 0) 158 17 0) 127 (-1) = S 127 (-1) := (hf2 127 _ (by first | decide | omega) (by first | decide | omega) (by first | decide | omega) (by first | decide | omega) (by first | decide | omega))
                    have el8 : (w_up (w_up Sq14 158 16 0) 158 17 0) 228 (-1) = S 228 (-1) := (hf2 228 _ (by first | decide | omega) (by first | decide | omega) (by first | decide | omega) (by first | decide | omega) (by first | decide | omega))
                    have el9 : (w_up (w_up Sq14 158 16 0) 158 17 0) 229 (-1) = S 229 (-1) := (hf2 229 _ (by first | decide | omega) (by first | decide | omega) (by first | decide | omega) (by first | decide | omega) (by first | decide | omega))
                    refine wa_cv 158 rfl (wy_pr rfl) wt_158 (M2 := fun _ => False) rfl at_XL_useField ⟨_, rfl⟩ rfl rfl ⟨trivial, trivial, trivial, (Or.inr ⟨wy_pr rfl, fun q => q⟩), (Or.inr ⟨wy_pr rfl, fun q => q⟩), trivial, trivial⟩ trivial (fun _ _ q => False.elim q) (uss0_73_226 (S := (w_up (w_up Sq14 158 16 0) 158 17 0)) (m := m) (f := fl) (w_CL_up (w_CL_up (CL_tr hC tr14) (by omega)) (by omega)) ((w_up_slot (by decide)).trans ((w_up_slot (by decide)).trans (((tr14.2.2.2.1 72 1 (by decide) (by decide) (by decide) (Or.inr (by decide))).trans (h72))))) ((w_up_at (by decide)).trans ((w_up_at (by decide)).trans (((tr14.2.2.2.1 158 5 (by decide) (by decide) (by decide) (Or.inl (by decide))).trans (l5))))) ((w_up_at (by decide)).trans ((w_up_at (by decide)).trans (((tr14.2.2.2.1 158 8 (by decide) (by decide) (by decide) (Or.inl (by decide))).trans (l8))))) (((w_up_at (by decide)).trans ((w_up_at (by decide)).trans ((tr14.2.2.2.1 158 10 (by decide) (by decide) (by decide) (Or.inl (by decide)))))).trans l10) hm hfl ((hf2 99 _ (by decide) (by decide) (by decide) (by decide) (by decide)).trans hstt) ((hf2 112 _ (by decide) (by decide) (by decide) (by decide) (by decide)).trans hfi) (fun x hx => by rw [hf2 (127 + x) (-1) (by omega) (by unfold wG; omega) (by omega) (by omega) (by omega), el3]; exact hth x hx) (by rw [el3]; exact hn2) (by rw [el, el2]; exact hl14) (by rw [el]; exact hz14) (by rw [el3]; exact hgb) ((hf2 133 _ (by decide) (by decide) (by decide) (by decide) (by decide)).trans hst) (by rw [el]; exact hrb) ((hf2 101 _ (by decide) (by decide) (by decide) (by decide) (by decide)).trans hmc) (by rw [el8, el9]; exact bl1) (by rw [el8]; exact ⟨by omega, by omega, bl3⟩) ((hf2 228 _ (by decide) (by decide) (by decide) (by decide) (by decide)).trans hk1) ((hf2 229 _ (by decide) (by decide) (by decide) (by decide) (by decide)).trans hv1)) (fun oq20 Sq20 hp21 q20 => ?_)
                    rcases q20 with ⟨rfl, rfl⟩
                    show wJ _ _ _ _ _ _ _ _ _ _
                    refine wa_goto ⟨_, rfl⟩ ?_
                    refine wa_aload_n (n := 0) rfl ?_
                    refine wb_gfi 158 rfl (wy_pr rfl) wt_158 wf_5_7 (v := kd) ((w_up_slot (by decide)).trans ((w_up_slot (by decide)).trans ((w_up_at (by decide)).trans ((w_up_at (by decide)).trans (((tr14.2.2.2.1 158 7 (by decide) (by decide) (by decide) (Or.inl (by decide))).trans (l7))))))) (fun r22 => ?_)
                    refine wa_iconst ?_
                    refine wa_icmpne (w_rg0 (by omega) (by omega)) (w_rg0 (by omega) (by omega)) ⟨_, rfl⟩ (fun c23 => ?_) (fun c23 => ?_)
                    · skip
                      refine wa_aload_n (n := 0) rfl ?_
                      refine wa_aload_n (n := 0) rfl ?_
                      refine wb_gfi 158 rfl (wy_pr rfl) wt_158 wf_5_16 (v := 0) ((w_up_slot (by decide)).trans ((w_up_slot (by decide)).trans ((w_up_at (by decide)).trans (w_up_same _ _ _ _)))) (fun r24 => ?_)
                      refine wa_aload_n (n := 0) rfl ?_
                      refine wb_gfl 158 rfl (wy_pr rfl) wt_158 wf_5_17 (v := 0) ((w_up_slot (by decide)).trans ((w_up_slot (by decide)).trans (w_up_same _ _ _ _))) (fun r25 => ?_)
                      refine wa_cv 158 rfl (wy_pr rfl) wt_158 (M2 := mS [228, 229]) rfl at_XL_giveValue ⟨_, rfl⟩ rfl rfl ⟨trivial, trivial, trivial, (Or.inr ⟨wy_pr rfl, mS_no rfl⟩), (Or.inr ⟨wy_pr rfl, mS_no rfl⟩), trivial, trivial⟩ trivial (fun _ _ q => mS_sub (by decide) q) (glx_226 (S := (w_up (w_up (w_up (w_up Sq14 158 16 0) 158 17 0) 141 (st + fi) k1) 142 (st + fi) v1)) (k := 0) (v := 0) (h := h) (c := c) (p := p) (ba := ba) (w_CL_up (w_CL_up (w_CL_up (w_CL_up (CL_tr hC tr14) (by omega)) (by omega)) (by omega)) (by omega)) (gI_up (gI_up (gI_up (gI_up tr14.2.2.2.2.2.1 (by omega) (by omega) (by omega)) (by omega) (by omega) (by omega)) (by omega) (by omega) (by omega)) (by omega) (by omega) (by omega)) ((w_up_slot (by decide)).trans ((w_up_slot (by decide)).trans ((w_up_at (by decide)).trans ((w_up_at (by decide)).trans (((tr14.2.2.2.1 158 4 (by decide) (by decide) (by decide) (Or.inl (by decide))).trans (l4))))))) ((w_up_slot (by decide)).trans ((w_up_slot (by decide)).trans ((w_up_at (by decide)).trans ((w_up_at (by decide)).trans (((tr14.2.2.2.1 158 5 (by decide) (by decide) (by decide) (Or.inl (by decide))).trans (l5))))))) ((w_up_slot (by decide)).trans ((w_up_slot (by decide)).trans ((w_up_at (by decide)).trans ((w_up_at (by decide)).trans (((tr14.2.2.2.1 158 8 (by decide) (by decide) (by decide) (Or.inl (by decide))).trans (l8))))))) ((w_up_slot (by decide)).trans ((w_up_slot (by decide)).trans ((w_up_slot (by decide)).trans ((w_up_slot (by decide)).trans (((tr14.2.2.2.1 226 4 (by decide) (by decide) (by decide) (Or.inl (by decide))).trans (bc))))))) ((w_up_slot (by decide)).trans ((w_up_slot (by decide)).trans ((w_up_slot (by decide)).trans ((w_up_slot (by decide)).trans (((tr14.2.2.2.1 231 (c - 1) (by decide) (by decide) (by decide) (Or.inl (by decide))).trans (bp))))))) ((((w_up_slot (by decide)).trans ((w_up_slot (by decide)).trans ((w_up_slot (by decide)).trans ((w_up_slot (by decide)).trans (((tr14.2.2.2.1 229 (-1) (by decide) (by decide) (by decide) (Or.inl (by decide))).trans (bl1)))))))).trans (((w_up_slot (by decide)).trans ((w_up_slot (by decide)).trans ((w_up_slot (by decide)).trans ((w_up_slot (by decide)).trans (((tr14.2.2.2.1 228 (-1) (by decide) (by decide) (by decide) (Or.inl (by decide))).trans (rfl)))))))).symm) (by have e : (w_up (w_up (w_up (w_up Sq14 158 16 0) 158 17 0) 141 (st + fi) k1) 142 (st + fi) v1) 228 (-1) = S 228 (-1) := ((w_up_slot (by decide)).trans ((w_up_slot (by decide)).trans ((w_up_slot (by decide)).trans ((w_up_slot (by decide)).trans (((tr14.2.2.2.1 228 (-1) (by decide) (by decide) (by decide) (Or.inl (by decide))).trans (rfl))))))); rw [e]; exact ⟨bl2, bl3⟩) (by have e : (w_up (w_up (w_up (w_up Sq14 158 16 0) 158 17 0) 141 (st + fi) k1) 142 (st + fi) v1) 228 (-1) = S 228 (-1) := ((w_up_slot (by decide)).trans ((w_up_slot (by decide)).trans ((w_up_slot (by decide)).trans ((w_up_slot (by decide)).trans (((tr14.2.2.2.1 228 (-1) (by decide) (by decide) (by decide) (Or.inl (by decide))).trans (rfl))))))); omega) ⟨by omega, by omega⟩ ⟨by omega, by omega⟩ ⟨by omega, by omega⟩ ⟨by omega, by omega⟩) (fun oq26 Sq26 hp27 q26 => ?_)
                      rcases q26 with ⟨rfl, hgv26⟩
                      show wJ _ _ _ _ _ _ _ _ _ _
                      refine wa_return rfl ?_
                      refine ⟨rfl, Or.inr ⟨by omega, Sq14, (w_up (w_up (w_up (w_up Sq14 158 16 0) 158 17 0) 141 (st + fi) k1) 142 (st + fi) v1), tr14, ?_, ?_⟩⟩
                      · exact fun j i hji => w_up_cg2 (w_up_cg2 ((w_up_no (by omega)).trans (w_up_no (by omega))))
                      · first | (rw [if_pos (show kd = 1 by omega), if_pos (show kd = 1 by omega)]; exact hgv26) | (rw [if_neg (show ¬ kd = 1 by omega), if_neg (show ¬ kd = 1 by omega)]; exact hgv26)
                    · skip
                      refine wa_aload_n (n := 0) rfl ?_
                      refine wa_aload_n (n := 0) rfl ?_
                      refine wb_gf5 158 rfl (wy_pr rfl) wt_158 wf_5_5 (v := 227) ((w_up_slot (by decide)).trans ((w_up_slot (by decide)).trans ((w_up_at (by decide)).trans ((w_up_at (by decide)).trans (((tr14.2.2.2.1 158 5 (by decide) (by decide) (by decide) (Or.inl (by decide))).trans (l5))))))) (fun r28 => ?_)
                      refine wb_gf4 227 rfl (wy_pr rfl) wt_227 wf_7_0 (v := 228) wl_227_0 ?_
                      refine wa_aload_n (n := 0) rfl ?_
                      refine wb_gf5 158 rfl (wy_pr rfl) wt_158 wf_5_5 (v := 227) ((w_up_slot (by decide)).trans ((w_up_slot (by decide)).trans ((w_up_at (by decide)).trans ((w_up_at (by decide)).trans (((tr14.2.2.2.1 158 5 (by decide) (by decide) (by decide) (Or.inl (by decide))).trans (l5))))))) (fun r29 => ?_)
                      refine wb_gfi 227 rfl (wy_pr rfl) wt_227 wf_7_2 (v := h) ((w_up_slot (by decide)).trans ((w_up_slot (by decide)).trans ((w_up_slot (by decide)).trans ((w_up_slot (by decide)).trans (((tr14.2.2.2.1 227 2 (by decide) (by decide) (by decide) (Or.inl (by decide))).trans (bh))))))) (fun r30 => ?_)
                      refine wa_iconst ?_
                      refine wa_isub ?_
                      refine wb_bald 228 rfl (wy_pr rfl) wt_228 (n := (S 228 (-1))) ((w_up_slot (by decide)).trans ((w_up_slot (by decide)).trans ((w_up_slot (by decide)).trans ((w_up_slot (by decide)).trans (((tr14.2.2.2.1 228 (-1) (by decide) (by decide) (by decide) (Or.inl (by decide))).trans (rfl))))))) (by omega) (by omega) (v := ky) ((w_up_slot (by decide)).trans ((w_up_slot (by decide)).trans ((w_up_slot (by decide)).trans ((w_up_slot (by decide)).trans (((tr14.2.2.2.1 228 (h - 1) (by decide) (by decide) (by decide) (Or.inl (by decide))).trans (hky))))))) (fun r31 => ?_)
                      refine wb_pfi 158 rfl (wy_pr rfl) wt_158 wf_5_16 (n := 16) rfl ⟨(by omega), (by omega)⟩ ?_
                      refine wa_aload_n (n := 0) rfl ?_
                      refine wa_aload_n (n := 0) rfl ?_
                      refine wb_gf5 158 rfl (wy_pr rfl) wt_158 wf_5_5 (v := 227) ((w_up_at (by decide)).trans ((w_up_slot (by decide)).trans ((w_up_slot (by decide)).trans ((w_up_at (by decide)).trans ((w_up_at (by decide)).trans (((tr14.2.2.2.1 158 5 (by decide) (by decide) (by decide) (Or.inl (by decide))).trans (l5)))))))) (fun r32 => ?_)
                      refine wb_gf4 227 rfl (wy_pr rfl) wt_227 wf_7_1 (v := 229) wl_227_1 ?_
                      refine wa_aload_n (n := 0) rfl ?_
                      refine wb_gf5 158 rfl (wy_pr rfl) wt_158 wf_5_5 (v := 227) ((w_up_at (by decide)).trans ((w_up_slot (by decide)).trans ((w_up_slot (by decide)).trans ((w_up_at (by decide)).trans ((w_up_at (by decide)).trans (((tr14.2.2.2.1 158 5 (by decide) (by decide) (by decide) (Or.inl (by decide))).trans (l5)))))))) (fun r33 => ?_)
                      refine wb_gfi 227 rfl (wy_pr rfl) wt_227 wf_7_2 (v := h) ((w_up_slot (by decide)).trans ((w_up_slot (by decide)).trans ((w_up_slot (by decide)).trans ((w_up_slot (by decide)).trans ((w_up_slot (by decide)).trans (((tr14.2.2.2.1 227 2 (by decide) (by decide) (by decide) (Or.inl (by decide))).trans (bh)))))))) (fun r34 => ?_)
                      refine wa_iconst ?_
                      refine wa_isub ?_
                      refine wb_lald 229 rfl (wy_pr rfl) wt_229 (n := (S 228 (-1))) ((w_up_slot (by decide)).trans ((w_up_slot (by decide)).trans ((w_up_slot (by decide)).trans ((w_up_slot (by decide)).trans ((w_up_slot (by decide)).trans (((tr14.2.2.2.1 229 (-1) (by decide) (by decide) (by decide) (Or.inl (by decide))).trans (bl1)))))))) (by omega) (by omega) (v := vy) ((w_up_slot (by decide)).trans ((w_up_slot (by decide)).trans ((w_up_slot (by decide)).trans ((w_up_slot (by decide)).trans ((w_up_slot (by decide)).trans (((tr14.2.2.2.1 229 (h - 1) (by decide) (by decide) (by decide) (Or.inl (by decide))).trans (hvy)))))))) (fun r35 => ?_)
                      refine wb_pfl 158 rfl (wy_pr rfl) wt_158 wf_5_17 (n := 17) rfl ⟨(by omega), (by omega)⟩ ?_
                      refine wa_fall ⟨_, rfl⟩ ?_
                      refine wa_aload_n (n := 0) rfl ?_
                      refine wa_aload_n (n := 0) rfl ?_
                      refine wb_gfi 158 rfl (wy_pr rfl) wt_158 wf_5_16 (v := ky) ((w_up_at (by decide)).trans (w_up_same _ _ _ _)) (fun r36 => ?_)
                      refine wa_aload_n (n := 0) rfl ?_
                      refine wb_gfl 158 rfl (wy_pr rfl) wt_158 wf_5_17 (v := vy) (w_up_same _ _ _ _) (fun r37 => ?_)
                      refine wa_cv 158 rfl (wy_pr rfl) wt_158 (M2 := mS [228, 229]) rfl at_XL_giveValue ⟨_, rfl⟩ rfl rfl ⟨trivial, trivial, trivial, (Or.inr ⟨wy_pr rfl, mS_no rfl⟩), (Or.inr ⟨wy_pr rfl, mS_no rfl⟩), trivial, trivial⟩ trivial (fun _ _ q => mS_sub (by decide) q) (glx_226 (S := (w_up (w_up (w_up (w_up (w_up (w_up Sq14 158 16 0) 158 17 0) 141 (st + fi) k1) 142 (st + fi) v1) 158 16 ky) 158 17 vy)) (k := ky) (v := vy) (h := h) (c := c) (p := p) (ba := ba) (w_CL_up (w_CL_up (w_CL_up (w_CL_up (w_CL_up (w_CL_up (CL_tr hC tr14) (by omega)) (by omega)) (by omega)) (by omega)) (by omega)) (by omega)) (gI_up (gI_up (gI_up (gI_up (gI_up (gI_up tr14.2.2.2.2.2.1 (by omega) (by omega) (by omega)) (by omega) (by omega) (by omega)) (by omega) (by omega) (by omega)) (by omega) (by omega) (by omega)) (by omega) (by omega) (by omega)) (by omega) (by omega) (by omega)) ((w_up_at (by decide)).trans ((w_up_at (by decide)).trans ((w_up_slot (by decide)).trans ((w_up_slot (by decide)).trans ((w_up_at (by decide)).trans ((w_up_at (by decide)).trans (((tr14.2.2.2.1 158 4 (by decide) (by decide) (by decide) (Or.inl (by decide))).trans (l4))))))))) ((w_up_at (by decide)).trans ((w_up_at (by decide)).trans ((w_up_slot (by decide)).trans ((w_up_slot (by decide)).trans ((w_up_at (by decide)).trans ((w_up_at (by decide)).trans (((tr14.2.2.2.1 158 5 (by decide) (by decide) (by decide) (Or.inl (by decide))).trans (l5))))))))) ((w_up_at (by decide)).trans ((w_up_at (by decide)).trans ((w_up_slot (by decide)).trans ((w_up_slot (by decide)).trans ((w_up_at (by decide)).trans ((w_up_at (by decide)).trans (((tr14.2.2.2.1 158 8 (by decide) (by decide) (by decide) (Or.inl (by decide))).trans (l8))))))))) ((w_up_slot (by decide)).trans ((w_up_slot (by decide)).trans ((w_up_slot (by decide)).trans ((w_up_slot (by decide)).trans ((w_up_slot (by decide)).trans ((w_up_slot (by decide)).trans (((tr14.2.2.2.1 226 4 (by decide) (by decide) (by decide) (Or.inl (by decide))).trans (bc))))))))) ((w_up_slot (by decide)).trans ((w_up_slot (by decide)).trans ((w_up_slot (by decide)).trans ((w_up_slot (by decide)).trans ((w_up_slot (by decide)).trans ((w_up_slot (by decide)).trans (((tr14.2.2.2.1 231 (c - 1) (by decide) (by decide) (by decide) (Or.inl (by decide))).trans (bp))))))))) ((((w_up_slot (by decide)).trans ((w_up_slot (by decide)).trans ((w_up_slot (by decide)).trans ((w_up_slot (by decide)).trans ((w_up_slot (by decide)).trans ((w_up_slot (by decide)).trans (((tr14.2.2.2.1 229 (-1) (by decide) (by decide) (by decide) (Or.inl (by decide))).trans (bl1)))))))))).trans (((w_up_slot (by decide)).trans ((w_up_slot (by decide)).trans ((w_up_slot (by decide)).trans ((w_up_slot (by decide)).trans ((w_up_slot (by decide)).trans ((w_up_slot (by decide)).trans (((tr14.2.2.2.1 228 (-1) (by decide) (by decide) (by decide) (Or.inl (by decide))).trans (rfl)))))))))).symm) (by have e : (w_up (w_up (w_up (w_up (w_up (w_up Sq14 158 16 0) 158 17 0) 141 (st + fi) k1) 142 (st + fi) v1) 158 16 ky) 158 17 vy) 228 (-1) = S 228 (-1) := ((w_up_slot (by decide)).trans ((w_up_slot (by decide)).trans ((w_up_slot (by decide)).trans ((w_up_slot (by decide)).trans ((w_up_slot (by decide)).trans ((w_up_slot (by decide)).trans (((tr14.2.2.2.1 228 (-1) (by decide) (by decide) (by decide) (Or.inl (by decide))).trans (rfl))))))))); rw [e]; exact ⟨bl2, bl3⟩) (by have e : (w_up (w_up (w_up (w_up (w_up (w_up Sq14 158 16 0) 158 17 0) 141 (st + fi) k1) 142 (st + fi) v1) 158 16 ky) 158 17 vy) 228 (-1) = S 228 (-1) := ((w_up_slot (by decide)).trans ((w_up_slot (by decide)).trans ((w_up_slot (by decide)).trans ((w_up_slot (by decide)).trans ((w_up_slot (by decide)).trans ((w_up_slot (by decide)).trans (((tr14.2.2.2.1 228 (-1) (by decide) (by decide) (by decide) (Or.inl (by decide))).trans (rfl))))))))); omega) ⟨by omega, by omega⟩ ⟨by omega, by omega⟩ ⟨by omega, by omega⟩ ⟨by omega, by omega⟩) (fun oq38 Sq38 hp39 q38 => ?_)
                      rcases q38 with ⟨rfl, hgv38⟩
                      show wJ _ _ _ _ _ _ _ _ _ _
                      refine wa_return rfl ?_
                      refine ⟨rfl, Or.inr ⟨by omega, Sq14, (w_up (w_up (w_up (w_up (w_up (w_up Sq14 158 16 0) 158 17 0) 141 (st + fi) k1) 142 (st + fi) v1) 158 16 ky) 158 17 vy), tr14, ?_, ?_⟩⟩
                      · exact fun j i hji => (w_up_no (by omega)).trans ((w_up_no (by omega)).trans (w_up_cg2 (w_up_cg2 ((w_up_no (by omega)).trans (w_up_no (by omega))))))
                      · first | (rw [if_pos (show kd = 1 by omega), if_pos (show kd = 1 by omega)]; exact hgv38) | (rw [if_neg (show ¬ kd = 1 by omega), if_neg (show ¬ kd = 1 by omega)]; exact hgv38)
                · skip
                  exact absurd c16 (by omega)
              · skip
                exact absurd c12 (by omega)
            · skip
              exact absurd c11 (by omega)
        · skip
          exact absurd c7 (by omega)
      · skip
        refine wa_aload_n (n := 2) rfl ?_
        refine wb_gf4 73 rfl (wy_pr rfl) wt_73 wf_3_3 (v := 96) wl_73_3 ?_
        refine wa_bipush (w_rg2 (by omega) (by omega)) ?_
        refine wb_aald5 96 15 rfl rfl (wy_pr rfl) wt_96 (by rw [show _ = _ from ((cl_96 hC))]; omega) wl_96_15 ?_
        refine wa_iload_n (n := 1) rfl ?_
        refine wb_iald 112 rfl (wy_pr rfl) wt_112 (n := 400) ((cl_112 hC)) (by omega) (by omega) (v := fl) (hmf) (fun r40 => ?_)
        refine wa_iconst ?_
        refine wa_icmpne (w_rg0 (by omega) (by omega)) (w_rg0 (by omega) (by omega)) ⟨_, rfl⟩ (fun c41 => ?_) (fun c41 => ?_)
        · skip
          refine wa_iconst ?_
          refine wa_fall ⟨_, rfl⟩ ?_
          refine wa_istore (n := 4) rfl ?_
          refine wa_iload_n (n := 3) rfl ?_
          refine wa_ifeq (w_rg0 (by omega) (by omega)) ⟨_, rfl⟩ (fun c42 => ?_) (fun c42 => ?_)
          · skip
            refine wa_iconst ?_
            refine wa_fall ⟨_, rfl⟩ ?_
            refine wa_istore (n := 5) rfl ?_
            refine wa_aload_n (n := 0) rfl ?_
            refine wb_gf4 158 rfl (wy_pr rfl) wt_158 wf_5_0 (v := 72) wl_158_0 ?_
            refine wb_gfi 72 rfl (wy_pr rfl) wt_72 wf_2_15 (v := tn) (ht15) (fun r43 => ?_)
            refine wa_iconst ?_
            refine wa_iadd ?_
            refine wb_ki (n := 100000) rfl ?_
            refine wa_icmpgt (w_rg0 (by omega) (by omega)) (w_rg0 (by omega) (by omega)) ⟨_, rfl⟩ (fun c44 => ?_) (fun c44 => ?_)
            · skip
              refine wa_aload_n (n := 0) rfl ?_
              refine wb_gf5 158 rfl (wy_pr rfl) wt_158 wf_5_4 (v := 226) (l4) (fun r45 => ?_)
              refine wa_bipush (w_rg2 (by omega) (by omega)) ?_
              refine wb_pfi 226 rfl (wy_pr rfl) wt_226 wf_8_16 (n := 16) rfl ⟨(by omega), (by omega)⟩ ?_
              refine wa_return rfl ?_
              exact ⟨rfl, Or.inl ⟨by omega, rfl⟩⟩
            · skip
              refine wa_iload_n (n := 3) rfl ?_
              refine wa_ifeq (w_rg0 (by omega) (by omega)) ⟨_, rfl⟩ (fun c46 => ?_) (fun c46 => ?_)
              · skip
                refine wa_iload (n := 4) rfl ?_
                refine wa_ifeq (w_rg0 (by omega) (by omega)) ⟨_, rfl⟩ (fun c47 => ?_) (fun c47 => ?_)
                · skip
                  refine wa_aload_n (n := 0) rfl ?_
                  refine wb_gf4 158 rfl (wy_pr rfl) wt_158 wf_5_0 (v := 72) wl_158_0 ?_
                  refine wa_iload_n (n := 1) rfl ?_
                  refine wa_aload_n (n := 0) rfl ?_
                  refine wb_gfi 158 rfl (wy_pr rfl) wt_158 wf_5_12 (v := en) (l12) (fun r48 => ?_)
                  refine wa_cv 72 rfl (wy_pr rfl) wt_72 (M2 := mS [152]) rfl at_XH_addTrace ⟨_, rfl⟩ rfl rfl ⟨trivial, trivial, trivial, (Or.inr ⟨wy_pr rfl, mS_no rfl⟩), (Or.inr ⟨wy_pr rfl, mS_no rfl⟩), trivial, trivial⟩ trivial (fun _ _ q => mS_sub (by decide) q) (tra (S := S) (m := m) (k := en) hI ⟨by omega, by omega⟩ ⟨by omega, by omega⟩ (by rw [ht15]; exact ht0) (by rw [ht15]; exact ht9)) (fun oq49 Sq49 hp50 q49 => ?_)
                  rcases q49 with ⟨rfl, tr49⟩
                  show wJ _ _ _ _ _ _ _ _ _ _
                  refine wa_aload_n (n := 0) rfl ?_
                  refine wa_iconst ?_
                  refine wb_pfi 158 rfl (wy_pr rfl) wt_158 wf_5_16 (n := 16) rfl ⟨(by omega), (by omega)⟩ ?_
                  refine wa_aload_n (n := 0) rfl ?_
                  refine wb_lconst (m := 0) rfl ?_
                  refine wb_pfl 158 rfl (wy_pr rfl) wt_158 wf_5_17 (n := 17) rfl ⟨(by omega), (by omega)⟩ ?_
                  refine wa_iload_n (n := 3) rfl ?_
                  refine wa_ifeq (w_rg0 (by omega) (by omega)) ⟨_, rfl⟩ (fun c51 => ?_) (fun c51 => ?_)
                  · skip
                    refine wa_aload_n (n := 2) rfl ?_
                    refine wb_gf4 73 rfl (wy_pr rfl) wt_73 wf_3_3 (v := 96) wl_73_3 ?_
                    refine wa_bipush (w_rg2 (by omega) (by omega)) ?_
                    refine wb_aald5 96 15 rfl rfl (wy_pr rfl) wt_96 (by rw [show _ = _ from ((w_up_slot (by decide)).trans ((w_up_slot (by decide)).trans (((tr49.2.2.2.1 96 (-1) (by decide) (by decide) (by decide) (Or.inl (by decide))).trans ((cl_96 hC))))))]; omega) wl_96_15 ?_
                    refine wa_iload_n (n := 1) rfl ?_
                    refine wb_iald 112 rfl (wy_pr rfl) wt_112 (n := 400) ((w_up_slot (by decide)).trans ((w_up_slot (by decide)).trans (((tr49.2.2.2.1 112 (-1) (by decide) (by decide) (by decide) (Or.inl (by decide))).trans ((cl_112 hC)))))) (by omega) (by omega) (v := fl) ((w_up_slot (by decide)).trans ((w_up_slot (by decide)).trans (((tr49.2.2.2.1 112 m (by decide) (by decide) (by decide) (Or.inl (by decide))).trans (hmf))))) (fun r52 => ?_)
                    refine wa_iconst ?_
                    refine wa_icmpeq (w_rg0 (by omega) (by omega)) (w_rg0 (by omega) (by omega)) ⟨_, rfl⟩ (fun c53 => ?_) (fun c53 => ?_)
                    · skip
                      exact absurd c53 (by omega)
                    · skip
                      refine wa_aload_n (n := 0) rfl ?_
                      refine wa_iload_n (n := 1) rfl ?_
                      refine wa_aload_n (n := 2) rfl ?_
                      refine wb_gf4 73 rfl (wy_pr rfl) wt_73 wf_3_3 (v := 96) wl_73_3 ?_
                      refine wa_bipush (w_rg2 (by omega) (by omega)) ?_
                      refine wb_aald5 96 15 rfl rfl (wy_pr rfl) wt_96 (by rw [show _ = _ from ((w_up_slot (by decide)).trans ((w_up_slot (by decide)).trans (((tr49.2.2.2.1 96 (-1) (by decide) (by decide) (by decide) (Or.inl (by decide))).trans ((cl_96 hC))))))]; omega) wl_96_15 ?_
                      refine wa_iload_n (n := 1) rfl ?_
                      refine wb_iald 112 rfl (wy_pr rfl) wt_112 (n := 400) ((w_up_slot (by decide)).trans ((w_up_slot (by decide)).trans (((tr49.2.2.2.1 112 (-1) (by decide) (by decide) (by decide) (Or.inl (by decide))).trans ((cl_112 hC)))))) (by omega) (by omega) (v := fl) ((w_up_slot (by decide)).trans ((w_up_slot (by decide)).trans (((tr49.2.2.2.1 112 m (by decide) (by decide) (by decide) (Or.inl (by decide))).trans (hmf))))) (fun r54 => ?_)
                      have hf2 : ∀ (j : Nat) (i : Int), j < 4000000 → j ≠ wG → j ≠ 152 → j ≠ 72 → j ≠ 158 → (w_up (w_up Sq49 158 16 0) 158 17 0) j i = S j i := fun j i a b c d e => (w_up_no (fun z => e z.1)).trans ((w_up_no (fun z => e z.1)).trans (tr49.2.2.2.1 j i a b c (Or.inl d)))
                      have el : (w_up (w_up Sq49 158 16 0) 158 17 0) 141 (-1) = S 141 (-1) := (hf2 141 _ (by first | decide | omega) (by first | decide | omega) (by first | decide | omega) (by first | decide | omega) (by first | decide | omega))
                      have el2 : (w_up (w_up Sq49 158 16 0) 158 17 0) 142 (-1) = S 142 (-1) := (hf2 142 _ (by first | decide | omega) (by first | decide | omega) (by first | decide | omega) (by first | decide | omega) (by first | decide | omega))
                      have el3 : (w_up (w_up Sq49 158 16 0) 158 17 0) 127 (-1) = S 127 (-1) := (hf2 127 _ (by first | decide | omega) (by first | decide | omega) (by first | decide | omega) (by first | decide | omega) (by first | decide | omega))
                      have el8 : (w_up (w_up Sq49 158 16 0) 158 17 0) 228 (-1) = S 228 (-1) := (hf2 228 _ (by first | decide | omega) (by first | decide | omega) (by first | decide | omega) (by first | decide | omega) (by first | decide | omega))
                      have el9 : (w_up (w_up Sq49 158 16 0) 158 17 0) 229 (-1) = S 229 (-1) := (hf2 229 _ (by first | decide | omega) (by first | decide | omega) (by first | decide | omega) (by first | decide | omega) (by first | decide | omega))
                      refine wa_cv 158 rfl (wy_pr rfl) wt_158 (M2 := fun _ => False) rfl at_XL_useField ⟨_, rfl⟩ rfl rfl ⟨trivial, trivial, trivial, (Or.inr ⟨wy_pr rfl, fun q => q⟩), (Or.inr ⟨wy_pr rfl, fun q => q⟩), trivial, trivial⟩ trivial (fun _ _ q => False.elim q) (uss0_73_226 (S := (w_up (w_up Sq49 158 16 0) 158 17 0)) (m := m) (f := fl) (w_CL_up (w_CL_up (CL_tr hC tr49) (by omega)) (by omega)) ((w_up_slot (by decide)).trans ((w_up_slot (by decide)).trans (((tr49.2.2.2.1 72 1 (by decide) (by decide) (by decide) (Or.inr (by decide))).trans (h72))))) ((w_up_at (by decide)).trans ((w_up_at (by decide)).trans (((tr49.2.2.2.1 158 5 (by decide) (by decide) (by decide) (Or.inl (by decide))).trans (l5))))) ((w_up_at (by decide)).trans ((w_up_at (by decide)).trans (((tr49.2.2.2.1 158 8 (by decide) (by decide) (by decide) (Or.inl (by decide))).trans (l8))))) (((w_up_at (by decide)).trans ((w_up_at (by decide)).trans ((tr49.2.2.2.1 158 10 (by decide) (by decide) (by decide) (Or.inl (by decide)))))).trans l10) hm hfl ((hf2 99 _ (by decide) (by decide) (by decide) (by decide) (by decide)).trans hstt) ((hf2 112 _ (by decide) (by decide) (by decide) (by decide) (by decide)).trans hfi) (fun x hx => by rw [hf2 (127 + x) (-1) (by omega) (by unfold wG; omega) (by omega) (by omega) (by omega), el3]; exact hth x hx) (by rw [el3]; exact hn2) (by rw [el, el2]; exact hl14) (by rw [el]; exact hz14) (by rw [el3]; exact hgb) ((hf2 133 _ (by decide) (by decide) (by decide) (by decide) (by decide)).trans hst) (by rw [el]; exact hrb) ((hf2 101 _ (by decide) (by decide) (by decide) (by decide) (by decide)).trans hmc) (by rw [el8, el9]; exact bl1) (by rw [el8]; exact ⟨by omega, by omega, bl3⟩) ((hf2 228 _ (by decide) (by decide) (by decide) (by decide) (by decide)).trans hk1) ((hf2 229 _ (by decide) (by decide) (by decide) (by decide) (by decide)).trans hv1)) (fun oq55 Sq55 hp56 q55 => ?_)
                      rcases q55 with ⟨rfl, rfl⟩
                      show wJ _ _ _ _ _ _ _ _ _ _
                      refine wa_goto ⟨_, rfl⟩ ?_
                      refine wa_aload_n (n := 0) rfl ?_
                      refine wb_gfi 158 rfl (wy_pr rfl) wt_158 wf_5_7 (v := kd) ((w_up_slot (by decide)).trans ((w_up_slot (by decide)).trans ((w_up_at (by decide)).trans ((w_up_at (by decide)).trans (((tr49.2.2.2.1 158 7 (by decide) (by decide) (by decide) (Or.inl (by decide))).trans (l7))))))) (fun r57 => ?_)
                      refine wa_iconst ?_
                      refine wa_icmpne (w_rg0 (by omega) (by omega)) (w_rg0 (by omega) (by omega)) ⟨_, rfl⟩ (fun c58 => ?_) (fun c58 => ?_)
                      · skip
                        refine wa_aload_n (n := 0) rfl ?_
                        refine wa_aload_n (n := 0) rfl ?_
                        refine wb_gfi 158 rfl (wy_pr rfl) wt_158 wf_5_16 (v := 0) ((w_up_slot (by decide)).trans ((w_up_slot (by decide)).trans ((w_up_at (by decide)).trans (w_up_same _ _ _ _)))) (fun r59 => ?_)
                        refine wa_aload_n (n := 0) rfl ?_
                        refine wb_gfl 158 rfl (wy_pr rfl) wt_158 wf_5_17 (v := 0) ((w_up_slot (by decide)).trans ((w_up_slot (by decide)).trans (w_up_same _ _ _ _))) (fun r60 => ?_)
                        refine wa_cv 158 rfl (wy_pr rfl) wt_158 (M2 := mS [228, 229]) rfl at_XL_giveValue ⟨_, rfl⟩ rfl rfl ⟨trivial, trivial, trivial, (Or.inr ⟨wy_pr rfl, mS_no rfl⟩), (Or.inr ⟨wy_pr rfl, mS_no rfl⟩), trivial, trivial⟩ trivial (fun _ _ q => mS_sub (by decide) q) (glx_226 (S := (w_up (w_up (w_up (w_up Sq49 158 16 0) 158 17 0) 141 (st + fi) k1) 142 (st + fi) v1)) (k := 0) (v := 0) (h := h) (c := c) (p := p) (ba := ba) (w_CL_up (w_CL_up (w_CL_up (w_CL_up (CL_tr hC tr49) (by omega)) (by omega)) (by omega)) (by omega)) (gI_up (gI_up (gI_up (gI_up tr49.2.2.2.2.2.1 (by omega) (by omega) (by omega)) (by omega) (by omega) (by omega)) (by omega) (by omega) (by omega)) (by omega) (by omega) (by omega)) ((w_up_slot (by decide)).trans ((w_up_slot (by decide)).trans ((w_up_at (by decide)).trans ((w_up_at (by decide)).trans (((tr49.2.2.2.1 158 4 (by decide) (by decide) (by decide) (Or.inl (by decide))).trans (l4))))))) ((w_up_slot (by decide)).trans ((w_up_slot (by decide)).trans ((w_up_at (by decide)).trans ((w_up_at (by decide)).trans (((tr49.2.2.2.1 158 5 (by decide) (by decide) (by decide) (Or.inl (by decide))).trans (l5))))))) ((w_up_slot (by decide)).trans ((w_up_slot (by decide)).trans ((w_up_at (by decide)).trans ((w_up_at (by decide)).trans (((tr49.2.2.2.1 158 8 (by decide) (by decide) (by decide) (Or.inl (by decide))).trans (l8))))))) ((w_up_slot (by decide)).trans ((w_up_slot (by decide)).trans ((w_up_slot (by decide)).trans ((w_up_slot (by decide)).trans (((tr49.2.2.2.1 226 4 (by decide) (by decide) (by decide) (Or.inl (by decide))).trans (bc))))))) ((w_up_slot (by decide)).trans ((w_up_slot (by decide)).trans ((w_up_slot (by decide)).trans ((w_up_slot (by decide)).trans (((tr49.2.2.2.1 231 (c - 1) (by decide) (by decide) (by decide) (Or.inl (by decide))).trans (bp))))))) ((((w_up_slot (by decide)).trans ((w_up_slot (by decide)).trans ((w_up_slot (by decide)).trans ((w_up_slot (by decide)).trans (((tr49.2.2.2.1 229 (-1) (by decide) (by decide) (by decide) (Or.inl (by decide))).trans (bl1)))))))).trans (((w_up_slot (by decide)).trans ((w_up_slot (by decide)).trans ((w_up_slot (by decide)).trans ((w_up_slot (by decide)).trans (((tr49.2.2.2.1 228 (-1) (by decide) (by decide) (by decide) (Or.inl (by decide))).trans (rfl)))))))).symm) (by have e : (w_up (w_up (w_up (w_up Sq49 158 16 0) 158 17 0) 141 (st + fi) k1) 142 (st + fi) v1) 228 (-1) = S 228 (-1) := ((w_up_slot (by decide)).trans ((w_up_slot (by decide)).trans ((w_up_slot (by decide)).trans ((w_up_slot (by decide)).trans (((tr49.2.2.2.1 228 (-1) (by decide) (by decide) (by decide) (Or.inl (by decide))).trans (rfl))))))); rw [e]; exact ⟨bl2, bl3⟩) (by have e : (w_up (w_up (w_up (w_up Sq49 158 16 0) 158 17 0) 141 (st + fi) k1) 142 (st + fi) v1) 228 (-1) = S 228 (-1) := ((w_up_slot (by decide)).trans ((w_up_slot (by decide)).trans ((w_up_slot (by decide)).trans ((w_up_slot (by decide)).trans (((tr49.2.2.2.1 228 (-1) (by decide) (by decide) (by decide) (Or.inl (by decide))).trans (rfl))))))); omega) ⟨by omega, by omega⟩ ⟨by omega, by omega⟩ ⟨by omega, by omega⟩ ⟨by omega, by omega⟩) (fun oq61 Sq61 hp62 q61 => ?_)
                        rcases q61 with ⟨rfl, hgv61⟩
                        show wJ _ _ _ _ _ _ _ _ _ _
                        refine wa_return rfl ?_
                        refine ⟨rfl, Or.inr ⟨by omega, Sq49, (w_up (w_up (w_up (w_up Sq49 158 16 0) 158 17 0) 141 (st + fi) k1) 142 (st + fi) v1), tr49, ?_, ?_⟩⟩
                        · exact fun j i hji => w_up_cg2 (w_up_cg2 ((w_up_no (by omega)).trans (w_up_no (by omega))))
                        · first | (rw [if_pos (show kd = 1 by omega), if_pos (show kd = 1 by omega)]; exact hgv61) | (rw [if_neg (show ¬ kd = 1 by omega), if_neg (show ¬ kd = 1 by omega)]; exact hgv61)
                      · skip
                        refine wa_aload_n (n := 0) rfl ?_
                        refine wa_aload_n (n := 0) rfl ?_
                        refine wb_gf5 158 rfl (wy_pr rfl) wt_158 wf_5_5 (v := 227) ((w_up_slot (by decide)).trans ((w_up_slot (by decide)).trans ((w_up_at (by decide)).trans ((w_up_at (by decide)).trans (((tr49.2.2.2.1 158 5 (by decide) (by decide) (by decide) (Or.inl (by decide))).trans (l5))))))) (fun r63 => ?_)
                        refine wb_gf4 227 rfl (wy_pr rfl) wt_227 wf_7_0 (v := 228) wl_227_0 ?_
                        refine wa_aload_n (n := 0) rfl ?_
                        refine wb_gf5 158 rfl (wy_pr rfl) wt_158 wf_5_5 (v := 227) ((w_up_slot (by decide)).trans ((w_up_slot (by decide)).trans ((w_up_at (by decide)).trans ((w_up_at (by decide)).trans (((tr49.2.2.2.1 158 5 (by decide) (by decide) (by decide) (Or.inl (by decide))).trans (l5))))))) (fun r64 => ?_)
                        refine wb_gfi 227 rfl (wy_pr rfl) wt_227 wf_7_2 (v := h) ((w_up_slot (by decide)).trans ((w_up_slot (by decide)).trans ((w_up_slot (by decide)).trans ((w_up_slot (by decide)).trans (((tr49.2.2.2.1 227 2 (by decide) (by decide) (by decide) (Or.inl (by decide))).trans (bh))))))) (fun r65 => ?_)
                        refine wa_iconst ?_
                        refine wa_isub ?_
                        refine wb_bald 228 rfl (wy_pr rfl) wt_228 (n := (S 228 (-1))) ((w_up_slot (by decide)).trans ((w_up_slot (by decide)).trans ((w_up_slot (by decide)).trans ((w_up_slot (by decide)).trans (((tr49.2.2.2.1 228 (-1) (by decide) (by decide) (by decide) (Or.inl (by decide))).trans (rfl))))))) (by omega) (by omega) (v := ky) ((w_up_slot (by decide)).trans ((w_up_slot (by decide)).trans ((w_up_slot (by decide)).trans ((w_up_slot (by decide)).trans (((tr49.2.2.2.1 228 (h - 1) (by decide) (by decide) (by decide) (Or.inl (by decide))).trans (hky))))))) (fun r66 => ?_)
                        refine wb_pfi 158 rfl (wy_pr rfl) wt_158 wf_5_16 (n := 16) rfl ⟨(by omega), (by omega)⟩ ?_
                        refine wa_aload_n (n := 0) rfl ?_
                        refine wa_aload_n (n := 0) rfl ?_
                        refine wb_gf5 158 rfl (wy_pr rfl) wt_158 wf_5_5 (v := 227) ((w_up_at (by decide)).trans ((w_up_slot (by decide)).trans ((w_up_slot (by decide)).trans ((w_up_at (by decide)).trans ((w_up_at (by decide)).trans (((tr49.2.2.2.1 158 5 (by decide) (by decide) (by decide) (Or.inl (by decide))).trans (l5)))))))) (fun r67 => ?_)
                        refine wb_gf4 227 rfl (wy_pr rfl) wt_227 wf_7_1 (v := 229) wl_227_1 ?_
                        refine wa_aload_n (n := 0) rfl ?_
                        refine wb_gf5 158 rfl (wy_pr rfl) wt_158 wf_5_5 (v := 227) ((w_up_at (by decide)).trans ((w_up_slot (by decide)).trans ((w_up_slot (by decide)).trans ((w_up_at (by decide)).trans ((w_up_at (by decide)).trans (((tr49.2.2.2.1 158 5 (by decide) (by decide) (by decide) (Or.inl (by decide))).trans (l5)))))))) (fun r68 => ?_)
                        refine wb_gfi 227 rfl (wy_pr rfl) wt_227 wf_7_2 (v := h) ((w_up_slot (by decide)).trans ((w_up_slot (by decide)).trans ((w_up_slot (by decide)).trans ((w_up_slot (by decide)).trans ((w_up_slot (by decide)).trans (((tr49.2.2.2.1 227 2 (by decide) (by decide) (by decide) (Or.inl (by decide))).trans (bh)))))))) (fun r69 => ?_)
                        refine wa_iconst ?_
                        refine wa_isub ?_
                        refine wb_lald 229 rfl (wy_pr rfl) wt_229 (n := (S 228 (-1))) ((w_up_slot (by decide)).trans ((w_up_slot (by decide)).trans ((w_up_slot (by decide)).trans ((w_up_slot (by decide)).trans ((w_up_slot (by decide)).trans (((tr49.2.2.2.1 229 (-1) (by decide) (by decide) (by decide) (Or.inl (by decide))).trans (bl1)))))))) (by omega) (by omega) (v := vy) ((w_up_slot (by decide)).trans ((w_up_slot (by decide)).trans ((w_up_slot (by decide)).trans ((w_up_slot (by decide)).trans ((w_up_slot (by decide)).trans (((tr49.2.2.2.1 229 (h - 1) (by decide) (by decide) (by decide) (Or.inl (by decide))).trans (hvy)))))))) (fun r70 => ?_)
                        refine wb_pfl 158 rfl (wy_pr rfl) wt_158 wf_5_17 (n := 17) rfl ⟨(by omega), (by omega)⟩ ?_
                        refine wa_fall ⟨_, rfl⟩ ?_
                        refine wa_aload_n (n := 0) rfl ?_
                        refine wa_aload_n (n := 0) rfl ?_
                        refine wb_gfi 158 rfl (wy_pr rfl) wt_158 wf_5_16 (v := ky) ((w_up_at (by decide)).trans (w_up_same _ _ _ _)) (fun r71 => ?_)
                        refine wa_aload_n (n := 0) rfl ?_
                        refine wb_gfl 158 rfl (wy_pr rfl) wt_158 wf_5_17 (v := vy) (w_up_same _ _ _ _) (fun r72 => ?_)
                        refine wa_cv 158 rfl (wy_pr rfl) wt_158 (M2 := mS [228, 229]) rfl at_XL_giveValue ⟨_, rfl⟩ rfl rfl ⟨trivial, trivial, trivial, (Or.inr ⟨wy_pr rfl, mS_no rfl⟩), (Or.inr ⟨wy_pr rfl, mS_no rfl⟩), trivial, trivial⟩ trivial (fun _ _ q => mS_sub (by decide) q) (glx_226 (S := (w_up (w_up (w_up (w_up (w_up (w_up Sq49 158 16 0) 158 17 0) 141 (st + fi) k1) 142 (st + fi) v1) 158 16 ky) 158 17 vy)) (k := ky) (v := vy) (h := h) (c := c) (p := p) (ba := ba) (w_CL_up (w_CL_up (w_CL_up (w_CL_up (w_CL_up (w_CL_up (CL_tr hC tr49) (by omega)) (by omega)) (by omega)) (by omega)) (by omega)) (by omega)) (gI_up (gI_up (gI_up (gI_up (gI_up (gI_up tr49.2.2.2.2.2.1 (by omega) (by omega) (by omega)) (by omega) (by omega) (by omega)) (by omega) (by omega) (by omega)) (by omega) (by omega) (by omega)) (by omega) (by omega) (by omega)) (by omega) (by omega) (by omega)) ((w_up_at (by decide)).trans ((w_up_at (by decide)).trans ((w_up_slot (by decide)).trans ((w_up_slot (by decide)).trans ((w_up_at (by decide)).trans ((w_up_at (by decide)).trans (((tr49.2.2.2.1 158 4 (by decide) (by decide) (by decide) (Or.inl (by decide))).trans (l4))))))))) ((w_up_at (by decide)).trans ((w_up_at (by decide)).trans ((w_up_slot (by decide)).trans ((w_up_slot (by decide)).trans ((w_up_at (by decide)).trans ((w_up_at (by decide)).trans (((tr49.2.2.2.1 158 5 (by decide) (by decide) (by decide) (Or.inl (by decide))).trans (l5))))))))) ((w_up_at (by decide)).trans ((w_up_at (by decide)).trans ((w_up_slot (by decide)).trans ((w_up_slot (by decide)).trans ((w_up_at (by decide)).trans ((w_up_at (by decide)).trans (((tr49.2.2.2.1 158 8 (by decide) (by decide) (by decide) (Or.inl (by decide))).trans (l8))))))))) ((w_up_slot (by decide)).trans ((w_up_slot (by decide)).trans ((w_up_slot (by decide)).trans ((w_up_slot (by decide)).trans ((w_up_slot (by decide)).trans ((w_up_slot (by decide)).trans (((tr49.2.2.2.1 226 4 (by decide) (by decide) (by decide) (Or.inl (by decide))).trans (bc))))))))) ((w_up_slot (by decide)).trans ((w_up_slot (by decide)).trans ((w_up_slot (by decide)).trans ((w_up_slot (by decide)).trans ((w_up_slot (by decide)).trans ((w_up_slot (by decide)).trans (((tr49.2.2.2.1 231 (c - 1) (by decide) (by decide) (by decide) (Or.inl (by decide))).trans (bp))))))))) ((((w_up_slot (by decide)).trans ((w_up_slot (by decide)).trans ((w_up_slot (by decide)).trans ((w_up_slot (by decide)).trans ((w_up_slot (by decide)).trans ((w_up_slot (by decide)).trans (((tr49.2.2.2.1 229 (-1) (by decide) (by decide) (by decide) (Or.inl (by decide))).trans (bl1)))))))))).trans (((w_up_slot (by decide)).trans ((w_up_slot (by decide)).trans ((w_up_slot (by decide)).trans ((w_up_slot (by decide)).trans ((w_up_slot (by decide)).trans ((w_up_slot (by decide)).trans (((tr49.2.2.2.1 228 (-1) (by decide) (by decide) (by decide) (Or.inl (by decide))).trans (rfl)))))))))).symm) (by have e : (w_up (w_up (w_up (w_up (w_up (w_up Sq49 158 16 0) 158 17 0) 141 (st + fi) k1) 142 (st + fi) v1) 158 16 ky) 158 17 vy) 228 (-1) = S 228 (-1) := ((w_up_slot (by decide)).trans ((w_up_slot (by decide)).trans ((w_up_slot (by decide)).trans ((w_up_slot (by decide)).trans ((w_up_slot (by decide)).trans ((w_up_slot (by decide)).trans (((tr49.2.2.2.1 228 (-1) (by decide) (by decide) (by decide) (Or.inl (by decide))).trans (rfl))))))))); rw [e]; exact ⟨bl2, bl3⟩) (by have e : (w_up (w_up (w_up (w_up (w_up (w_up Sq49 158 16 0) 158 17 0) 141 (st + fi) k1) 142 (st + fi) v1) 158 16 ky) 158 17 vy) 228 (-1) = S 228 (-1) := ((w_up_slot (by decide)).trans ((w_up_slot (by decide)).trans ((w_up_slot (by decide)).trans ((w_up_slot (by decide)).trans ((w_up_slot (by decide)).trans ((w_up_slot (by decide)).trans (((tr49.2.2.2.1 228 (-1) (by decide) (by decide) (by decide) (Or.inl (by decide))).trans (rfl))))))))); omega) ⟨by omega, by omega⟩ ⟨by omega, by omega⟩ ⟨by omega, by omega⟩ ⟨by omega, by omega⟩) (fun oq73 Sq73 hp74 q73 => ?_)
                        rcases q73 with ⟨rfl, hgv73⟩
                        show wJ _ _ _ _ _ _ _ _ _ _
                        refine wa_return rfl ?_
                        refine ⟨rfl, Or.inr ⟨by omega, Sq49, (w_up (w_up (w_up (w_up (w_up (w_up Sq49 158 16 0) 158 17 0) 141 (st + fi) k1) 142 (st + fi) v1) 158 16 ky) 158 17 vy), tr49, ?_, ?_⟩⟩
                        · exact fun j i hji => (w_up_no (by omega)).trans ((w_up_no (by omega)).trans (w_up_cg2 (w_up_cg2 ((w_up_no (by omega)).trans (w_up_no (by omega))))))
                        · first | (rw [if_pos (show kd = 1 by omega), if_pos (show kd = 1 by omega)]; exact hgv73) | (rw [if_neg (show ¬ kd = 1 by omega), if_neg (show ¬ kd = 1 by omega)]; exact hgv73)
                  · skip
                    exact absurd c51 (by omega)
                · skip
                  exact absurd c47 (by omega)
              · skip
                exact absurd c46 (by omega)
          · skip
            exact absurd c42 (by omega)
        · skip
          exact absurd c41 (by omega)
  · skip
    exact absurd c3 (by omega)
set_option maxHeartbeats 4000000 in
theorem cmv_162_215 {c p h kd ba m en tn ky vy  : Int} (hP : xP 215 c p h S) (l4 : S 158 4 = 215) (l5 : S 158 5 = 216) (l7 : S 158 7 = kd) (l8 : S 158 8 = ba) (l12 : S 158 12 = en) (hen : 0 ≤ en ∧ en ≤ 1000) (hba : 0 ≤ ba ∧ ba < h) (h72 : S 72 1 = 162) (hm : 0 ≤ m ∧ m < 400) (hso : S 187 m = 1) (ht15 : S 72 15 = tn) (ht0 : 0 ≤ tn ∧ tn ≤ S 152 (-1) ∧ tn ≤ 100000) (ht9 : 16 ≤ S 152 (-1) ∧ S 152 (-1) ≤ 131072 ∨ (16 ≤ S 152 (-1) ∧ S 152 (-1) ≤ 262143 ∧ tn + 2 ≤ S 152 (-1))) (hky : S 217 (h - 1) = ky) (hvy : S 218 (h - 1) = vy) (hkr : -128 ≤ ky ∧ ky ≤ 127) (hvr : -9223372036854775808 ≤ vy ∧ vy ≤ 9223372036854775807) (hmt : S 189 m = 0) (hmf : S 201 m = -1) : wJ (pe_GA xs) wY0 (mS [217, 218, 152]) (d + 6) t_XL_callMember ((pe_at t_XL_callMember.bl 0).getD (0, [])).2 [(0, (2, 158)), (1, (0, m))] [] S (fun o Z => o = .inl none ∧ ((100000 < tn + 2 ∧ w_up S 215 16 99 = Z) ∨ (¬ (100000 < tn + 2) ∧ cmE 215 h c p (h - ba) kd ky vy 0 0 m en gvR S Z))) := by
  obtain ⟨⟨hC, hI⟩, ⟨bc, bc0, bc1⟩, ⟨bp, bp0, bp1⟩, ⟨bh, bh0, bh1, bh2⟩, bl1, bl2, bl3⟩ := hP
  replace bp : S 220 (c - 1) = p := bp
  replace bh : S 216 2 = h := bh
  replace bh2 : h ≤ S 217 (-1) := bh2
  replace bl1 : S 218 (-1) = S 217 (-1) := bl1
  replace bl2 : 64 ≤ S 217 (-1) := bl2
  replace bl3 : S 217 (-1) ≤ 4095 := bl3
  refine wa_aload_n (n := 0) rfl ?_
  refine wb_gf4 158 rfl (wy_pr rfl) wt_158 wf_5_0 (v := 72) wl_158_0 ?_
  refine wb_gf5 72 rfl (wy_pr rfl) wt_72 wf_2_1 (v := 162) (h72) (fun r1 => ?_)
  refine wa_astore_n (n := 2) rfl ?_
  refine wa_aload_n (n := 2) rfl ?_
  refine wb_gf4 162 rfl (wy_pr rfl) wt_162 wf_3_3 (v := 185) wl_162_3 ?_
  refine wa_iconst ?_
  refine wb_aald5 185 1 rfl rfl (wy_pr rfl) wt_185 (by rw [show _ = _ from ((cl_185 hC))]; omega) wl_185_1 ?_
  refine wa_iload_n (n := 1) rfl ?_
  refine wb_iald 187 rfl (wy_pr rfl) wt_187 (n := 400) ((cl_187 hC)) (by omega) (by omega) (v := 1) (hso) (fun r2 => ?_)
  refine wa_iconst ?_
  refine wa_icmpne (w_rg0 (by omega) (by omega)) (w_rg0 (by omega) (by omega)) ⟨_, rfl⟩ (fun c3 => ?_) (fun c3 => ?_)
  · skip
    refine wa_iconst ?_
    refine wa_fall ⟨_, rfl⟩ ?_
    refine wa_istore_n (n := 3) rfl ?_
    refine wa_iload_n (n := 3) rfl ?_
    refine wa_ifne (w_rg0 (by omega) (by omega)) ⟨_, rfl⟩ (fun c4 => ?_) (fun c4 => ?_)
    · skip
      exact absurd c4 (by omega)
    · skip
      refine wa_aload_n (n := 2) rfl ?_
      refine wb_gf4 162 rfl (wy_pr rfl) wt_162 wf_3_3 (v := 185) wl_162_3 ?_
      refine wa_iconst ?_
      refine wb_aald5 185 3 rfl rfl (wy_pr rfl) wt_185 (by rw [show _ = _ from ((cl_185 hC))]; omega) wl_185_3 ?_
      refine wa_iload_n (n := 1) rfl ?_
      refine wb_iald 189 rfl (wy_pr rfl) wt_189 (n := 400) ((cl_189 hC)) (by omega) (by omega) (v := 0) (hmt) (fun r5 => ?_)
      refine wa_bipush (w_rg2 (by omega) (by omega)) ?_
      refine wa_icmpne (w_rg0 (by omega) (by omega)) (w_rg0 (by omega) (by omega)) ⟨_, rfl⟩ (fun c6 => ?_) (fun c6 => ?_)
      · skip
        refine wa_iconst ?_
        refine wa_fall ⟨_, rfl⟩ ?_
        refine wa_istore (n := 4) rfl ?_
        refine wa_iload_n (n := 3) rfl ?_
        refine wa_ifeq (w_rg0 (by omega) (by omega)) ⟨_, rfl⟩ (fun c7 => ?_) (fun c7 => ?_)
        · skip
          refine wa_iconst ?_
          refine wa_fall ⟨_, rfl⟩ ?_
          refine wa_istore (n := 5) rfl ?_
          refine wa_aload_n (n := 0) rfl ?_
          refine wb_gf4 158 rfl (wy_pr rfl) wt_158 wf_5_0 (v := 72) wl_158_0 ?_
          refine wb_gfi 72 rfl (wy_pr rfl) wt_72 wf_2_15 (v := tn) (ht15) (fun r8 => ?_)
          refine wa_iconst ?_
          refine wa_iadd ?_
          refine wb_ki (n := 100000) rfl ?_
          refine wa_icmpgt (w_rg0 (by omega) (by omega)) (w_rg0 (by omega) (by omega)) ⟨_, rfl⟩ (fun c9 => ?_) (fun c9 => ?_)
          · skip
            refine wa_aload_n (n := 0) rfl ?_
            refine wb_gf5 158 rfl (wy_pr rfl) wt_158 wf_5_4 (v := 215) (l4) (fun r10 => ?_)
            refine wa_bipush (w_rg2 (by omega) (by omega)) ?_
            refine wb_pfi 215 rfl (wy_pr rfl) wt_215 wf_8_16 (n := 16) rfl ⟨(by omega), (by omega)⟩ ?_
            refine wa_return rfl ?_
            exact ⟨rfl, Or.inl ⟨by omega, rfl⟩⟩
          · skip
            refine wa_iload_n (n := 3) rfl ?_
            refine wa_ifeq (w_rg0 (by omega) (by omega)) ⟨_, rfl⟩ (fun c11 => ?_) (fun c11 => ?_)
            · skip
              refine wa_iload (n := 4) rfl ?_
              refine wa_ifeq (w_rg0 (by omega) (by omega)) ⟨_, rfl⟩ (fun c12 => ?_) (fun c12 => ?_)
              · skip
                refine wa_aload_n (n := 0) rfl ?_
                refine wb_gf4 158 rfl (wy_pr rfl) wt_158 wf_5_0 (v := 72) wl_158_0 ?_
                refine wa_iload_n (n := 1) rfl ?_
                refine wa_aload_n (n := 0) rfl ?_
                refine wb_gfi 158 rfl (wy_pr rfl) wt_158 wf_5_12 (v := en) (l12) (fun r13 => ?_)
                refine wa_cv 72 rfl (wy_pr rfl) wt_72 (M2 := mS [152]) rfl at_XH_addTrace ⟨_, rfl⟩ rfl rfl ⟨trivial, trivial, trivial, (Or.inr ⟨wy_pr rfl, mS_no rfl⟩), (Or.inr ⟨wy_pr rfl, mS_no rfl⟩), trivial, trivial⟩ trivial (fun _ _ q => mS_sub (by decide) q) (tra (S := S) (m := m) (k := en) hI ⟨by omega, by omega⟩ ⟨by omega, by omega⟩ (by rw [ht15]; exact ht0) (by rw [ht15]; exact ht9)) (fun oq14 Sq14 hp15 q14 => ?_)
                rcases q14 with ⟨rfl, tr14⟩
                show wJ _ _ _ _ _ _ _ _ _ _
                refine wa_aload_n (n := 0) rfl ?_
                refine wa_iconst ?_
                refine wb_pfi 158 rfl (wy_pr rfl) wt_158 wf_5_16 (n := 16) rfl ⟨(by omega), (by omega)⟩ ?_
                refine wa_aload_n (n := 0) rfl ?_
                refine wb_lconst (m := 0) rfl ?_
                refine wb_pfl 158 rfl (wy_pr rfl) wt_158 wf_5_17 (n := 17) rfl ⟨(by omega), (by omega)⟩ ?_
                refine wa_iload_n (n := 3) rfl ?_
                refine wa_ifeq (w_rg0 (by omega) (by omega)) ⟨_, rfl⟩ (fun c16 => ?_) (fun c16 => ?_)
                · skip
                  refine wa_aload_n (n := 2) rfl ?_
                  refine wb_gf4 162 rfl (wy_pr rfl) wt_162 wf_3_3 (v := 185) wl_162_3 ?_
                  refine wa_bipush (w_rg2 (by omega) (by omega)) ?_
                  refine wb_aald5 185 15 rfl rfl (wy_pr rfl) wt_185 (by rw [show _ = _ from ((w_up_slot (by decide)).trans ((w_up_slot (by decide)).trans (((tr14.2.2.2.1 185 (-1) (by decide) (by decide) (by decide) (Or.inl (by decide))).trans ((cl_185 hC))))))]; omega) wl_185_15 ?_
                  refine wa_iload_n (n := 1) rfl ?_
                  refine wb_iald 201 rfl (wy_pr rfl) wt_201 (n := 400) ((w_up_slot (by decide)).trans ((w_up_slot (by decide)).trans (((tr14.2.2.2.1 201 (-1) (by decide) (by decide) (by decide) (Or.inl (by decide))).trans ((cl_201 hC)))))) (by omega) (by omega) (v := (-1)) ((w_up_slot (by decide)).trans ((w_up_slot (by decide)).trans (((tr14.2.2.2.1 201 m (by decide) (by decide) (by decide) (Or.inl (by decide))).trans (hmf))))) (fun r17 => ?_)
                  refine wa_iconst ?_
                  refine wa_icmpeq (w_rg0 (by omega) (by omega)) (w_rg0 (by omega) (by omega)) ⟨_, rfl⟩ (fun c18 => ?_) (fun c18 => ?_)
                  · skip
                    refine wa_aload_n (n := 0) rfl ?_
                    refine wa_iload_n (n := 1) rfl ?_
                    refine wa_cv 158 rfl (wy_pr rfl) wt_158 (M2 := fun _ => False) rfl at_XL_answer ⟨_, rfl⟩ rfl rfl ⟨trivial, trivial, trivial, (Or.inr ⟨wy_pr rfl, fun q => q⟩), (Or.inr ⟨wy_pr rfl, fun q => q⟩), trivial, trivial⟩ trivial (fun _ _ q => False.elim q) (anv_162_215 (S := (w_up (w_up Sq14 158 16 0) 158 17 0)) (m := m) (w_CL_up (w_CL_up (CL_tr hC tr14) (by omega)) (by omega)) ((w_up_slot (by decide)).trans ((w_up_slot (by decide)).trans (((tr14.2.2.2.1 72 1 (by decide) (by decide) (by decide) (Or.inr (by decide))).trans (h72))))) hm ((w_up_slot (by decide)).trans ((w_up_slot (by decide)).trans (((tr14.2.2.2.1 189 m (by decide) (by decide) (by decide) (Or.inl (by decide))).trans (hmt)))))) (fun oq19 Sq19 hp20 q19 => ?_)
                    rcases q19 with ⟨rfl, rfl⟩
                    show wJ _ _ _ _ _ _ _ _ _ _
                    refine wa_fall ⟨_, rfl⟩ ?_
                    refine wa_aload_n (n := 0) rfl ?_
                    refine wb_gfi 158 rfl (wy_pr rfl) wt_158 wf_5_7 (v := kd) ((w_up_at (by decide)).trans ((w_up_at (by decide)).trans (((tr14.2.2.2.1 158 7 (by decide) (by decide) (by decide) (Or.inl (by decide))).trans (l7))))) (fun r21 => ?_)
                    refine wa_iconst ?_
                    refine wa_icmpne (w_rg0 (by omega) (by omega)) (w_rg0 (by omega) (by omega)) ⟨_, rfl⟩ (fun c22 => ?_) (fun c22 => ?_)
                    · skip
                      refine wa_aload_n (n := 0) rfl ?_
                      refine wa_aload_n (n := 0) rfl ?_
                      refine wb_gfi 158 rfl (wy_pr rfl) wt_158 wf_5_16 (v := 0) ((w_up_at (by decide)).trans (w_up_same _ _ _ _)) (fun r23 => ?_)
                      refine wa_aload_n (n := 0) rfl ?_
                      refine wb_gfl 158 rfl (wy_pr rfl) wt_158 wf_5_17 (v := 0) (w_up_same _ _ _ _) (fun r24 => ?_)
                      refine wa_cv 158 rfl (wy_pr rfl) wt_158 (M2 := mS [217, 218]) rfl at_XL_giveValue ⟨_, rfl⟩ rfl rfl ⟨trivial, trivial, trivial, (Or.inr ⟨wy_pr rfl, mS_no rfl⟩), (Or.inr ⟨wy_pr rfl, mS_no rfl⟩), trivial, trivial⟩ trivial (fun _ _ q => mS_sub (by decide) q) (glx_215 (S := (w_up (w_up Sq14 158 16 0) 158 17 0)) (k := 0) (v := 0) (h := h) (c := c) (p := p) (ba := ba) (w_CL_up (w_CL_up (CL_tr hC tr14) (by omega)) (by omega)) (gI_up (gI_up tr14.2.2.2.2.2.1 (by omega) (by omega) (by omega)) (by omega) (by omega) (by omega)) ((w_up_at (by decide)).trans ((w_up_at (by decide)).trans (((tr14.2.2.2.1 158 4 (by decide) (by decide) (by decide) (Or.inl (by decide))).trans (l4))))) ((w_up_at (by decide)).trans ((w_up_at (by decide)).trans (((tr14.2.2.2.1 158 5 (by decide) (by decide) (by decide) (Or.inl (by decide))).trans (l5))))) ((w_up_at (by decide)).trans ((w_up_at (by decide)).trans (((tr14.2.2.2.1 158 8 (by decide) (by decide) (by decide) (Or.inl (by decide))).trans (l8))))) ((w_up_slot (by decide)).trans ((w_up_slot (by decide)).trans (((tr14.2.2.2.1 215 4 (by decide) (by decide) (by decide) (Or.inl (by decide))).trans (bc))))) ((w_up_slot (by decide)).trans ((w_up_slot (by decide)).trans (((tr14.2.2.2.1 220 (c - 1) (by decide) (by decide) (by decide) (Or.inl (by decide))).trans (bp))))) ((((w_up_slot (by decide)).trans ((w_up_slot (by decide)).trans (((tr14.2.2.2.1 218 (-1) (by decide) (by decide) (by decide) (Or.inl (by decide))).trans (bl1)))))).trans (((w_up_slot (by decide)).trans ((w_up_slot (by decide)).trans (((tr14.2.2.2.1 217 (-1) (by decide) (by decide) (by decide) (Or.inl (by decide))).trans (rfl)))))).symm) (by have e : (w_up (w_up Sq14 158 16 0) 158 17 0) 217 (-1) = S 217 (-1) := ((w_up_slot (by decide)).trans ((w_up_slot (by decide)).trans (((tr14.2.2.2.1 217 (-1) (by decide) (by decide) (by decide) (Or.inl (by decide))).trans (rfl))))); rw [e]; exact ⟨bl2, bl3⟩) (by have e : (w_up (w_up Sq14 158 16 0) 158 17 0) 217 (-1) = S 217 (-1) := ((w_up_slot (by decide)).trans ((w_up_slot (by decide)).trans (((tr14.2.2.2.1 217 (-1) (by decide) (by decide) (by decide) (Or.inl (by decide))).trans (rfl))))); omega) ⟨by omega, by omega⟩ ⟨by omega, by omega⟩ ⟨by omega, by omega⟩ ⟨by omega, by omega⟩) (fun oq25 Sq25 hp26 q25 => ?_)
                      rcases q25 with ⟨rfl, hgv25⟩
                      show wJ _ _ _ _ _ _ _ _ _ _
                      refine wa_return rfl ?_
                      refine ⟨rfl, Or.inr ⟨by omega, Sq14, (w_up (w_up Sq14 158 16 0) 158 17 0), tr14, ?_, ?_⟩⟩
                      · exact fun j i hji => (w_up_no (by omega)).trans ((w_up_no (by omega)).trans (rfl))
                      · first | (rw [if_pos (show kd = 1 by omega), if_pos (show kd = 1 by omega)]; exact hgv25) | (rw [if_neg (show ¬ kd = 1 by omega), if_neg (show ¬ kd = 1 by omega)]; exact hgv25)
                    · skip
                      refine wa_aload_n (n := 0) rfl ?_
                      refine wa_aload_n (n := 0) rfl ?_
                      refine wb_gf5 158 rfl (wy_pr rfl) wt_158 wf_5_5 (v := 216) ((w_up_at (by decide)).trans ((w_up_at (by decide)).trans (((tr14.2.2.2.1 158 5 (by decide) (by decide) (by decide) (Or.inl (by decide))).trans (l5))))) (fun r27 => ?_)
                      refine wb_gf4 216 rfl (wy_pr rfl) wt_216 wf_7_0 (v := 217) wl_216_0 ?_
                      refine wa_aload_n (n := 0) rfl ?_
                      refine wb_gf5 158 rfl (wy_pr rfl) wt_158 wf_5_5 (v := 216) ((w_up_at (by decide)).trans ((w_up_at (by decide)).trans (((tr14.2.2.2.1 158 5 (by decide) (by decide) (by decide) (Or.inl (by decide))).trans (l5))))) (fun r28 => ?_)
                      refine wb_gfi 216 rfl (wy_pr rfl) wt_216 wf_7_2 (v := h) ((w_up_slot (by decide)).trans ((w_up_slot (by decide)).trans (((tr14.2.2.2.1 216 2 (by decide) (by decide) (by decide) (Or.inl (by decide))).trans (bh))))) (fun r29 => ?_)
                      refine wa_iconst ?_
                      refine wa_isub ?_
                      refine wb_bald 217 rfl (wy_pr rfl) wt_217 (n := (S 217 (-1))) ((w_up_slot (by decide)).trans ((w_up_slot (by decide)).trans (((tr14.2.2.2.1 217 (-1) (by decide) (by decide) (by decide) (Or.inl (by decide))).trans (rfl))))) (by omega) (by omega) (v := ky) ((w_up_slot (by decide)).trans ((w_up_slot (by decide)).trans (((tr14.2.2.2.1 217 (h - 1) (by decide) (by decide) (by decide) (Or.inl (by decide))).trans (hky))))) (fun r30 => ?_)
                      refine wb_pfi 158 rfl (wy_pr rfl) wt_158 wf_5_16 (n := 16) rfl ⟨(by omega), (by omega)⟩ ?_
                      refine wa_aload_n (n := 0) rfl ?_
                      refine wa_aload_n (n := 0) rfl ?_
                      refine wb_gf5 158 rfl (wy_pr rfl) wt_158 wf_5_5 (v := 216) ((w_up_at (by decide)).trans ((w_up_at (by decide)).trans ((w_up_at (by decide)).trans (((tr14.2.2.2.1 158 5 (by decide) (by decide) (by decide) (Or.inl (by decide))).trans (l5)))))) (fun r31 => ?_)
                      refine wb_gf4 216 rfl (wy_pr rfl) wt_216 wf_7_1 (v := 218) wl_216_1 ?_
                      refine wa_aload_n (n := 0) rfl ?_
                      refine wb_gf5 158 rfl (wy_pr rfl) wt_158 wf_5_5 (v := 216) ((w_up_at (by decide)).trans ((w_up_at (by decide)).trans ((w_up_at (by decide)).trans (((tr14.2.2.2.1 158 5 (by decide) (by decide) (by decide) (Or.inl (by decide))).trans (l5)))))) (fun r32 => ?_)
                      refine wb_gfi 216 rfl (wy_pr rfl) wt_216 wf_7_2 (v := h) ((w_up_slot (by decide)).trans ((w_up_slot (by decide)).trans ((w_up_slot (by decide)).trans (((tr14.2.2.2.1 216 2 (by decide) (by decide) (by decide) (Or.inl (by decide))).trans (bh)))))) (fun r33 => ?_)
                      refine wa_iconst ?_
                      refine wa_isub ?_
                      refine wb_lald 218 rfl (wy_pr rfl) wt_218 (n := (S 217 (-1))) ((w_up_slot (by decide)).trans ((w_up_slot (by decide)).trans ((w_up_slot (by decide)).trans (((tr14.2.2.2.1 218 (-1) (by decide) (by decide) (by decide) (Or.inl (by decide))).trans (bl1)))))) (by omega) (by omega) (v := vy) ((w_up_slot (by decide)).trans ((w_up_slot (by decide)).trans ((w_up_slot (by decide)).trans (((tr14.2.2.2.1 218 (h - 1) (by decide) (by decide) (by decide) (Or.inl (by decide))).trans (hvy)))))) (fun r34 => ?_)
                      refine wb_pfl 158 rfl (wy_pr rfl) wt_158 wf_5_17 (n := 17) rfl ⟨(by omega), (by omega)⟩ ?_
                      refine wa_fall ⟨_, rfl⟩ ?_
                      refine wa_aload_n (n := 0) rfl ?_
                      refine wa_aload_n (n := 0) rfl ?_
                      refine wb_gfi 158 rfl (wy_pr rfl) wt_158 wf_5_16 (v := ky) ((w_up_at (by decide)).trans (w_up_same _ _ _ _)) (fun r35 => ?_)
                      refine wa_aload_n (n := 0) rfl ?_
                      refine wb_gfl 158 rfl (wy_pr rfl) wt_158 wf_5_17 (v := vy) (w_up_same _ _ _ _) (fun r36 => ?_)
                      refine wa_cv 158 rfl (wy_pr rfl) wt_158 (M2 := mS [217, 218]) rfl at_XL_giveValue ⟨_, rfl⟩ rfl rfl ⟨trivial, trivial, trivial, (Or.inr ⟨wy_pr rfl, mS_no rfl⟩), (Or.inr ⟨wy_pr rfl, mS_no rfl⟩), trivial, trivial⟩ trivial (fun _ _ q => mS_sub (by decide) q) (glx_215 (S := (w_up (w_up (w_up (w_up Sq14 158 16 0) 158 17 0) 158 16 ky) 158 17 vy)) (k := ky) (v := vy) (h := h) (c := c) (p := p) (ba := ba) (w_CL_up (w_CL_up (w_CL_up (w_CL_up (CL_tr hC tr14) (by omega)) (by omega)) (by omega)) (by omega)) (gI_up (gI_up (gI_up (gI_up tr14.2.2.2.2.2.1 (by omega) (by omega) (by omega)) (by omega) (by omega) (by omega)) (by omega) (by omega) (by omega)) (by omega) (by omega) (by omega)) ((w_up_at (by decide)).trans ((w_up_at (by decide)).trans ((w_up_at (by decide)).trans ((w_up_at (by decide)).trans (((tr14.2.2.2.1 158 4 (by decide) (by decide) (by decide) (Or.inl (by decide))).trans (l4))))))) ((w_up_at (by decide)).trans ((w_up_at (by decide)).trans ((w_up_at (by decide)).trans ((w_up_at (by decide)).trans (((tr14.2.2.2.1 158 5 (by decide) (by decide) (by decide) (Or.inl (by decide))).trans (l5))))))) ((w_up_at (by decide)).trans ((w_up_at (by decide)).trans ((w_up_at (by decide)).trans ((w_up_at (by decide)).trans (((tr14.2.2.2.1 158 8 (by decide) (by decide) (by decide) (Or.inl (by decide))).trans (l8))))))) ((w_up_slot (by decide)).trans ((w_up_slot (by decide)).trans ((w_up_slot (by decide)).trans ((w_up_slot (by decide)).trans (((tr14.2.2.2.1 215 4 (by decide) (by decide) (by decide) (Or.inl (by decide))).trans (bc))))))) ((w_up_slot (by decide)).trans ((w_up_slot (by decide)).trans ((w_up_slot (by decide)).trans ((w_up_slot (by decide)).trans (((tr14.2.2.2.1 220 (c - 1) (by decide) (by decide) (by decide) (Or.inl (by decide))).trans (bp))))))) ((((w_up_slot (by decide)).trans ((w_up_slot (by decide)).trans ((w_up_slot (by decide)).trans ((w_up_slot (by decide)).trans (((tr14.2.2.2.1 218 (-1) (by decide) (by decide) (by decide) (Or.inl (by decide))).trans (bl1)))))))).trans (((w_up_slot (by decide)).trans ((w_up_slot (by decide)).trans ((w_up_slot (by decide)).trans ((w_up_slot (by decide)).trans (((tr14.2.2.2.1 217 (-1) (by decide) (by decide) (by decide) (Or.inl (by decide))).trans (rfl)))))))).symm) (by have e : (w_up (w_up (w_up (w_up Sq14 158 16 0) 158 17 0) 158 16 ky) 158 17 vy) 217 (-1) = S 217 (-1) := ((w_up_slot (by decide)).trans ((w_up_slot (by decide)).trans ((w_up_slot (by decide)).trans ((w_up_slot (by decide)).trans (((tr14.2.2.2.1 217 (-1) (by decide) (by decide) (by decide) (Or.inl (by decide))).trans (rfl))))))); rw [e]; exact ⟨bl2, bl3⟩) (by have e : (w_up (w_up (w_up (w_up Sq14 158 16 0) 158 17 0) 158 16 ky) 158 17 vy) 217 (-1) = S 217 (-1) := ((w_up_slot (by decide)).trans ((w_up_slot (by decide)).trans ((w_up_slot (by decide)).trans ((w_up_slot (by decide)).trans (((tr14.2.2.2.1 217 (-1) (by decide) (by decide) (by decide) (Or.inl (by decide))).trans (rfl))))))); omega) ⟨by omega, by omega⟩ ⟨by omega, by omega⟩ ⟨by omega, by omega⟩ ⟨by omega, by omega⟩) (fun oq37 Sq37 hp38 q37 => ?_)
                      rcases q37 with ⟨rfl, hgv37⟩
                      show wJ _ _ _ _ _ _ _ _ _ _
                      refine wa_return rfl ?_
                      refine ⟨rfl, Or.inr ⟨by omega, Sq14, (w_up (w_up (w_up (w_up Sq14 158 16 0) 158 17 0) 158 16 ky) 158 17 vy), tr14, ?_, ?_⟩⟩
                      · exact fun j i hji => (w_up_no (by omega)).trans ((w_up_no (by omega)).trans ((w_up_no (by omega)).trans ((w_up_no (by omega)).trans (rfl))))
                      · first | (rw [if_pos (show kd = 1 by omega), if_pos (show kd = 1 by omega)]; exact hgv37) | (rw [if_neg (show ¬ kd = 1 by omega), if_neg (show ¬ kd = 1 by omega)]; exact hgv37)
                  · skip
                    exact absurd c18 (by omega)
                · skip
                  exact absurd c16 (by omega)
              · skip
                exact absurd c12 (by omega)
            · skip
              exact absurd c11 (by omega)
        · skip
          exact absurd c7 (by omega)
      · skip
        exact absurd c6 (by omega)
  · skip
    exact absurd c3 (by omega)
set_option maxHeartbeats 4000000 in
theorem cmn_162_215 {c p h kd ba m en tn ky vy ty : Int} (hP : xP 215 c p h S) (l4 : S 158 4 = 215) (l5 : S 158 5 = 216) (l7 : S 158 7 = kd) (l8 : S 158 8 = ba) (l12 : S 158 12 = en) (hen : 0 ≤ en ∧ en ≤ 1000) (hba : 0 ≤ ba ∧ ba < h) (h72 : S 72 1 = 162) (hm : 0 ≤ m ∧ m < 400) (hso : S 187 m = 1) (ht15 : S 72 15 = tn) (ht0 : 0 ≤ tn ∧ tn ≤ S 152 (-1) ∧ tn ≤ 100000) (ht9 : 16 ≤ S 152 (-1) ∧ S 152 (-1) ≤ 131072 ∨ (16 ≤ S 152 (-1) ∧ S 152 (-1) ≤ 262143 ∧ tn + 2 ≤ S 152 (-1))) (hky : S 217 (h - 1) = ky) (hvy : S 218 (h - 1) = vy) (hkr : -128 ≤ ky ∧ ky ≤ 127) (hvr : -9223372036854775808 ≤ vy ∧ vy ≤ 9223372036854775807) {es : List (Int × Int)} (hmt : S 189 m = ty) (hmf : S 201 m = -1) (htr : 1 ≤ ty ∧ ty ≤ 6) (hel : en = (es.length : Int)) (heb : ba + 1 + en ≤ h) (hes : ∀ i : Nat, i < es.length → S 217 (ba + 1 + (i : Int)) = (es.getD i (0, 0)).1 ∧ S 218 (ba + 1 + (i : Int)) = (es.getD i (0, 0)).2) : wJ (pe_GA xs) wY0 (mS [217, 218, 152]) (d + 6) t_XL_callMember ((pe_at t_XL_callMember.bl 0).getD (0, [])).2 [(0, (2, 158)), (1, (0, m))] [] S (fun o Z => o = .inl none ∧ ((100000 < tn + 2 ∧ w_up S 215 16 99 = Z) ∨ (¬ (100000 < tn + 2) ∧ cmE 215 h c p (h - ba) kd ky vy (anK ty) (anB ty (anS m es)) m en gvR S Z))) := by
  obtain ⟨⟨hC, hI⟩, ⟨bc, bc0, bc1⟩, ⟨bp, bp0, bp1⟩, ⟨bh, bh0, bh1, bh2⟩, bl1, bl2, bl3⟩ := hP
  replace bp : S 220 (c - 1) = p := bp
  replace bh : S 216 2 = h := bh
  replace bh2 : h ≤ S 217 (-1) := bh2
  replace bl1 : S 218 (-1) = S 217 (-1) := bl1
  replace bl2 : 64 ≤ S 217 (-1) := bl2
  replace bl3 : S 217 (-1) ≤ 4095 := bl3
  have hak : 1 ≤ anK ty ∧ anK ty ≤ 2 := by unfold anK; split <;> omega
  have hab : -9223372036854775808 ≤ anB ty (anS m es) ∧ anB ty (anS m es) ≤ 9223372036854775807 := by
    have z1 := land_1 (anS m es)
    have z2 := wb_l2i_rg (anS m es)
    have z3 := w64_rg (anS m es)
    unfold anB
    split
    · omega
    · split <;> omega
  refine wa_aload_n (n := 0) rfl ?_
  refine wb_gf4 158 rfl (wy_pr rfl) wt_158 wf_5_0 (v := 72) wl_158_0 ?_
  refine wb_gf5 72 rfl (wy_pr rfl) wt_72 wf_2_1 (v := 162) (h72) (fun r1 => ?_)
  refine wa_astore_n (n := 2) rfl ?_
  refine wa_aload_n (n := 2) rfl ?_
  refine wb_gf4 162 rfl (wy_pr rfl) wt_162 wf_3_3 (v := 185) wl_162_3 ?_
  refine wa_iconst ?_
  refine wb_aald5 185 1 rfl rfl (wy_pr rfl) wt_185 (by rw [show _ = _ from ((cl_185 hC))]; omega) wl_185_1 ?_
  refine wa_iload_n (n := 1) rfl ?_
  refine wb_iald 187 rfl (wy_pr rfl) wt_187 (n := 400) ((cl_187 hC)) (by omega) (by omega) (v := 1) (hso) (fun r2 => ?_)
  refine wa_iconst ?_
  refine wa_icmpne (w_rg0 (by omega) (by omega)) (w_rg0 (by omega) (by omega)) ⟨_, rfl⟩ (fun c3 => ?_) (fun c3 => ?_)
  · skip
    refine wa_iconst ?_
    refine wa_fall ⟨_, rfl⟩ ?_
    refine wa_istore_n (n := 3) rfl ?_
    refine wa_iload_n (n := 3) rfl ?_
    refine wa_ifne (w_rg0 (by omega) (by omega)) ⟨_, rfl⟩ (fun c4 => ?_) (fun c4 => ?_)
    · skip
      exact absurd c4 (by omega)
    · skip
      refine wa_aload_n (n := 2) rfl ?_
      refine wb_gf4 162 rfl (wy_pr rfl) wt_162 wf_3_3 (v := 185) wl_162_3 ?_
      refine wa_iconst ?_
      refine wb_aald5 185 3 rfl rfl (wy_pr rfl) wt_185 (by rw [show _ = _ from ((cl_185 hC))]; omega) wl_185_3 ?_
      refine wa_iload_n (n := 1) rfl ?_
      refine wb_iald 189 rfl (wy_pr rfl) wt_189 (n := 400) ((cl_189 hC)) (by omega) (by omega) (v := ty) (hmt) (fun r5 => ?_)
      refine wa_bipush (w_rg2 (by omega) (by omega)) ?_
      refine wa_icmpne (w_rg0 (by omega) (by omega)) (w_rg0 (by omega) (by omega)) ⟨_, rfl⟩ (fun c6 => ?_) (fun c6 => ?_)
      · skip
        refine wa_iconst ?_
        refine wa_fall ⟨_, rfl⟩ ?_
        refine wa_istore (n := 4) rfl ?_
        refine wa_iload_n (n := 3) rfl ?_
        refine wa_ifeq (w_rg0 (by omega) (by omega)) ⟨_, rfl⟩ (fun c7 => ?_) (fun c7 => ?_)
        · skip
          refine wa_iconst ?_
          refine wa_fall ⟨_, rfl⟩ ?_
          refine wa_istore (n := 5) rfl ?_
          refine wa_aload_n (n := 0) rfl ?_
          refine wb_gf4 158 rfl (wy_pr rfl) wt_158 wf_5_0 (v := 72) wl_158_0 ?_
          refine wb_gfi 72 rfl (wy_pr rfl) wt_72 wf_2_15 (v := tn) (ht15) (fun r8 => ?_)
          refine wa_iconst ?_
          refine wa_iadd ?_
          refine wb_ki (n := 100000) rfl ?_
          refine wa_icmpgt (w_rg0 (by omega) (by omega)) (w_rg0 (by omega) (by omega)) ⟨_, rfl⟩ (fun c9 => ?_) (fun c9 => ?_)
          · skip
            refine wa_aload_n (n := 0) rfl ?_
            refine wb_gf5 158 rfl (wy_pr rfl) wt_158 wf_5_4 (v := 215) (l4) (fun r10 => ?_)
            refine wa_bipush (w_rg2 (by omega) (by omega)) ?_
            refine wb_pfi 215 rfl (wy_pr rfl) wt_215 wf_8_16 (n := 16) rfl ⟨(by omega), (by omega)⟩ ?_
            refine wa_return rfl ?_
            exact ⟨rfl, Or.inl ⟨by omega, rfl⟩⟩
          · skip
            refine wa_iload_n (n := 3) rfl ?_
            refine wa_ifeq (w_rg0 (by omega) (by omega)) ⟨_, rfl⟩ (fun c11 => ?_) (fun c11 => ?_)
            · skip
              refine wa_iload (n := 4) rfl ?_
              refine wa_ifeq (w_rg0 (by omega) (by omega)) ⟨_, rfl⟩ (fun c12 => ?_) (fun c12 => ?_)
              · skip
                refine wa_aload_n (n := 0) rfl ?_
                refine wb_gf4 158 rfl (wy_pr rfl) wt_158 wf_5_0 (v := 72) wl_158_0 ?_
                refine wa_iload_n (n := 1) rfl ?_
                refine wa_aload_n (n := 0) rfl ?_
                refine wb_gfi 158 rfl (wy_pr rfl) wt_158 wf_5_12 (v := en) (l12) (fun r13 => ?_)
                refine wa_cv 72 rfl (wy_pr rfl) wt_72 (M2 := mS [152]) rfl at_XH_addTrace ⟨_, rfl⟩ rfl rfl ⟨trivial, trivial, trivial, (Or.inr ⟨wy_pr rfl, mS_no rfl⟩), (Or.inr ⟨wy_pr rfl, mS_no rfl⟩), trivial, trivial⟩ trivial (fun _ _ q => mS_sub (by decide) q) (tra (S := S) (m := m) (k := en) hI ⟨by omega, by omega⟩ ⟨by omega, by omega⟩ (by rw [ht15]; exact ht0) (by rw [ht15]; exact ht9)) (fun oq14 Sq14 hp15 q14 => ?_)
                rcases q14 with ⟨rfl, tr14⟩
                show wJ _ _ _ _ _ _ _ _ _ _
                refine wa_aload_n (n := 0) rfl ?_
                refine wa_iconst ?_
                refine wb_pfi 158 rfl (wy_pr rfl) wt_158 wf_5_16 (n := 16) rfl ⟨(by omega), (by omega)⟩ ?_
                refine wa_aload_n (n := 0) rfl ?_
                refine wb_lconst (m := 0) rfl ?_
                refine wb_pfl 158 rfl (wy_pr rfl) wt_158 wf_5_17 (n := 17) rfl ⟨(by omega), (by omega)⟩ ?_
                refine wa_iload_n (n := 3) rfl ?_
                refine wa_ifeq (w_rg0 (by omega) (by omega)) ⟨_, rfl⟩ (fun c16 => ?_) (fun c16 => ?_)
                · skip
                  refine wa_aload_n (n := 2) rfl ?_
                  refine wb_gf4 162 rfl (wy_pr rfl) wt_162 wf_3_3 (v := 185) wl_162_3 ?_
                  refine wa_bipush (w_rg2 (by omega) (by omega)) ?_
                  refine wb_aald5 185 15 rfl rfl (wy_pr rfl) wt_185 (by rw [show _ = _ from ((w_up_slot (by decide)).trans ((w_up_slot (by decide)).trans (((tr14.2.2.2.1 185 (-1) (by decide) (by decide) (by decide) (Or.inl (by decide))).trans ((cl_185 hC))))))]; omega) wl_185_15 ?_
                  refine wa_iload_n (n := 1) rfl ?_
                  refine wb_iald 201 rfl (wy_pr rfl) wt_201 (n := 400) ((w_up_slot (by decide)).trans ((w_up_slot (by decide)).trans (((tr14.2.2.2.1 201 (-1) (by decide) (by decide) (by decide) (Or.inl (by decide))).trans ((cl_201 hC)))))) (by omega) (by omega) (v := (-1)) ((w_up_slot (by decide)).trans ((w_up_slot (by decide)).trans (((tr14.2.2.2.1 201 m (by decide) (by decide) (by decide) (Or.inl (by decide))).trans (hmf))))) (fun r17 => ?_)
                  refine wa_iconst ?_
                  refine wa_icmpeq (w_rg0 (by omega) (by omega)) (w_rg0 (by omega) (by omega)) ⟨_, rfl⟩ (fun c18 => ?_) (fun c18 => ?_)
                  · skip
                    refine wa_aload_n (n := 0) rfl ?_
                    refine wa_iload_n (n := 1) rfl ?_
                    have hf2 : ∀ (j : Nat) (i : Int), j < 4000000 → j ≠ wG → j ≠ 152 → j ≠ 72 → j ≠ 158 → (w_up (w_up Sq14 158 16 0) 158 17 0) j i = S j i := fun j i a b c d e => (w_up_no (fun z => e z.1)).trans ((w_up_no (fun z => e z.1)).trans (tr14.2.2.2.1 j i a b c (Or.inl d)))
                    have el : (w_up (w_up Sq14 158 16 0) 158 17 0) 217 (-1) = S 217 (-1) := (hf2 217 _ (by first | decide | omega) (by first | decide | omega) (by first | decide | omega) (by first | decide | omega) (by first | decide | omega))
                    have el2 : (w_up (w_up Sq14 158 16 0) 158 17 0) 218 (-1) = S 218 (-1) := (hf2 218 _ (by first | decide | omega) (by first | decide | omega) (by first | decide | omega) (by first | decide | omega) (by first | decide | omega))
                    refine wa_cv 158 rfl (wy_pr rfl) wt_158 (M2 := fun _ => False) rfl at_XL_answer ⟨_, rfl⟩ rfl rfl ⟨trivial, trivial, trivial, (Or.inr ⟨wy_pr rfl, fun q => q⟩), (Or.inr ⟨wy_pr rfl, fun q => q⟩), trivial, trivial⟩ trivial (fun _ _ q => False.elim q) (ann_162_215 (S := (w_up (w_up Sq14 158 16 0) 158 17 0)) (m := m) (es := es) (w_CL_up (w_CL_up (CL_tr hC tr14) (by omega)) (by omega)) ((w_up_slot (by decide)).trans ((w_up_slot (by decide)).trans (((tr14.2.2.2.1 72 1 (by decide) (by decide) (by decide) (Or.inr (by decide))).trans (h72))))) ((w_up_at (by decide)).trans ((w_up_at (by decide)).trans (((tr14.2.2.2.1 158 5 (by decide) (by decide) (by decide) (Or.inl (by decide))).trans (l5))))) ((w_up_at (by decide)).trans ((w_up_at (by decide)).trans (((tr14.2.2.2.1 158 8 (by decide) (by decide) (by decide) (Or.inl (by decide))).trans (l8))))) (((w_up_at (by decide)).trans ((w_up_at (by decide)).trans (((tr14.2.2.2.1 158 12 (by decide) (by decide) (by decide) (Or.inl (by decide))).trans (l12))))).trans hel) hm ((w_up_slot (by decide)).trans ((w_up_slot (by decide)).trans (((tr14.2.2.2.1 189 m (by decide) (by decide) (by decide) (Or.inl (by decide))).trans (hmt))))) htr (by rw [el, el2]; exact bl1) (by rw [el]; exact ⟨by omega, by omega, bl3⟩) (fun i hi => ⟨(hf2 217 _ (by decide) (by decide) (by decide) (by decide) (by decide)).trans (hes i hi).1, (hf2 218 _ (by decide) (by decide) (by decide) (by decide) (by decide)).trans (hes i hi).2⟩)) (fun oq19 Sq19 hp20 q19 => ?_)
                    rcases q19 with ⟨rfl, rfl⟩
                    show wJ _ _ _ _ _ _ _ _ _ _
                    refine wa_fall ⟨_, rfl⟩ ?_
                    refine wa_aload_n (n := 0) rfl ?_
                    refine wb_gfi 158 rfl (wy_pr rfl) wt_158 wf_5_7 (v := kd) ((w_up_at (by decide)).trans ((w_up_at (by decide)).trans ((w_up_at (by decide)).trans ((w_up_at (by decide)).trans (((tr14.2.2.2.1 158 7 (by decide) (by decide) (by decide) (Or.inl (by decide))).trans (l7))))))) (fun r21 => ?_)
                    refine wa_iconst ?_
                    refine wa_icmpne (w_rg0 (by omega) (by omega)) (w_rg0 (by omega) (by omega)) ⟨_, rfl⟩ (fun c22 => ?_) (fun c22 => ?_)
                    · skip
                      refine wa_aload_n (n := 0) rfl ?_
                      refine wa_aload_n (n := 0) rfl ?_
                      refine wb_gfi 158 rfl (wy_pr rfl) wt_158 wf_5_16 (v := (anK ty)) ((w_up_at (by decide)).trans (w_up_same _ _ _ _)) (fun r23 => ?_)
                      refine wa_aload_n (n := 0) rfl ?_
                      refine wb_gfl 158 rfl (wy_pr rfl) wt_158 wf_5_17 (v := (anB ty (anS m es))) (w_up_same _ _ _ _) (fun r24 => ?_)
                      refine wa_cv 158 rfl (wy_pr rfl) wt_158 (M2 := mS [217, 218]) rfl at_XL_giveValue ⟨_, rfl⟩ rfl rfl ⟨trivial, trivial, trivial, (Or.inr ⟨wy_pr rfl, mS_no rfl⟩), (Or.inr ⟨wy_pr rfl, mS_no rfl⟩), trivial, trivial⟩ trivial (fun _ _ q => mS_sub (by decide) q) (glx_215 (S := (w_up (w_up (w_up (w_up Sq14 158 16 0) 158 17 0) 158 16 (anK ty)) 158 17 (anB ty (anS m es)))) (k := (anK ty)) (v := (anB ty (anS m es))) (h := h) (c := c) (p := p) (ba := ba) (w_CL_up (w_CL_up (w_CL_up (w_CL_up (CL_tr hC tr14) (by omega)) (by omega)) (by omega)) (by omega)) (gI_up (gI_up (gI_up (gI_up tr14.2.2.2.2.2.1 (by omega) (by omega) (by omega)) (by omega) (by omega) (by omega)) (by omega) (by omega) (by omega)) (by omega) (by omega) (by omega)) ((w_up_at (by decide)).trans ((w_up_at (by decide)).trans ((w_up_at (by decide)).trans ((w_up_at (by decide)).trans (((tr14.2.2.2.1 158 4 (by decide) (by decide) (by decide) (Or.inl (by decide))).trans (l4))))))) ((w_up_at (by decide)).trans ((w_up_at (by decide)).trans ((w_up_at (by decide)).trans ((w_up_at (by decide)).trans (((tr14.2.2.2.1 158 5 (by decide) (by decide) (by decide) (Or.inl (by decide))).trans (l5))))))) ((w_up_at (by decide)).trans ((w_up_at (by decide)).trans ((w_up_at (by decide)).trans ((w_up_at (by decide)).trans (((tr14.2.2.2.1 158 8 (by decide) (by decide) (by decide) (Or.inl (by decide))).trans (l8))))))) ((w_up_slot (by decide)).trans ((w_up_slot (by decide)).trans ((w_up_slot (by decide)).trans ((w_up_slot (by decide)).trans (((tr14.2.2.2.1 215 4 (by decide) (by decide) (by decide) (Or.inl (by decide))).trans (bc))))))) ((w_up_slot (by decide)).trans ((w_up_slot (by decide)).trans ((w_up_slot (by decide)).trans ((w_up_slot (by decide)).trans (((tr14.2.2.2.1 220 (c - 1) (by decide) (by decide) (by decide) (Or.inl (by decide))).trans (bp))))))) ((((w_up_slot (by decide)).trans ((w_up_slot (by decide)).trans ((w_up_slot (by decide)).trans ((w_up_slot (by decide)).trans (((tr14.2.2.2.1 218 (-1) (by decide) (by decide) (by decide) (Or.inl (by decide))).trans (bl1)))))))).trans (((w_up_slot (by decide)).trans ((w_up_slot (by decide)).trans ((w_up_slot (by decide)).trans ((w_up_slot (by decide)).trans (((tr14.2.2.2.1 217 (-1) (by decide) (by decide) (by decide) (Or.inl (by decide))).trans (rfl)))))))).symm) (by have e : (w_up (w_up (w_up (w_up Sq14 158 16 0) 158 17 0) 158 16 (anK ty)) 158 17 (anB ty (anS m es))) 217 (-1) = S 217 (-1) := ((w_up_slot (by decide)).trans ((w_up_slot (by decide)).trans ((w_up_slot (by decide)).trans ((w_up_slot (by decide)).trans (((tr14.2.2.2.1 217 (-1) (by decide) (by decide) (by decide) (Or.inl (by decide))).trans (rfl))))))); rw [e]; exact ⟨bl2, bl3⟩) (by have e : (w_up (w_up (w_up (w_up Sq14 158 16 0) 158 17 0) 158 16 (anK ty)) 158 17 (anB ty (anS m es))) 217 (-1) = S 217 (-1) := ((w_up_slot (by decide)).trans ((w_up_slot (by decide)).trans ((w_up_slot (by decide)).trans ((w_up_slot (by decide)).trans (((tr14.2.2.2.1 217 (-1) (by decide) (by decide) (by decide) (Or.inl (by decide))).trans (rfl))))))); omega) ⟨by omega, by omega⟩ ⟨by omega, by omega⟩ ⟨by omega, by omega⟩ ⟨by omega, by omega⟩) (fun oq25 Sq25 hp26 q25 => ?_)
                      rcases q25 with ⟨rfl, hgv25⟩
                      show wJ _ _ _ _ _ _ _ _ _ _
                      refine wa_return rfl ?_
                      refine ⟨rfl, Or.inr ⟨by omega, Sq14, (w_up (w_up (w_up (w_up Sq14 158 16 0) 158 17 0) 158 16 (anK ty)) 158 17 (anB ty (anS m es))), tr14, ?_, ?_⟩⟩
                      · exact fun j i hji => (w_up_no (by omega)).trans ((w_up_no (by omega)).trans ((w_up_no (by omega)).trans ((w_up_no (by omega)).trans (rfl))))
                      · first | (rw [if_pos (show kd = 1 by omega), if_pos (show kd = 1 by omega)]; exact hgv25) | (rw [if_neg (show ¬ kd = 1 by omega), if_neg (show ¬ kd = 1 by omega)]; exact hgv25)
                    · skip
                      refine wa_aload_n (n := 0) rfl ?_
                      refine wa_aload_n (n := 0) rfl ?_
                      refine wb_gf5 158 rfl (wy_pr rfl) wt_158 wf_5_5 (v := 216) ((w_up_at (by decide)).trans ((w_up_at (by decide)).trans ((w_up_at (by decide)).trans ((w_up_at (by decide)).trans (((tr14.2.2.2.1 158 5 (by decide) (by decide) (by decide) (Or.inl (by decide))).trans (l5))))))) (fun r27 => ?_)
                      refine wb_gf4 216 rfl (wy_pr rfl) wt_216 wf_7_0 (v := 217) wl_216_0 ?_
                      refine wa_aload_n (n := 0) rfl ?_
                      refine wb_gf5 158 rfl (wy_pr rfl) wt_158 wf_5_5 (v := 216) ((w_up_at (by decide)).trans ((w_up_at (by decide)).trans ((w_up_at (by decide)).trans ((w_up_at (by decide)).trans (((tr14.2.2.2.1 158 5 (by decide) (by decide) (by decide) (Or.inl (by decide))).trans (l5))))))) (fun r28 => ?_)
                      refine wb_gfi 216 rfl (wy_pr rfl) wt_216 wf_7_2 (v := h) ((w_up_slot (by decide)).trans ((w_up_slot (by decide)).trans ((w_up_slot (by decide)).trans ((w_up_slot (by decide)).trans (((tr14.2.2.2.1 216 2 (by decide) (by decide) (by decide) (Or.inl (by decide))).trans (bh))))))) (fun r29 => ?_)
                      refine wa_iconst ?_
                      refine wa_isub ?_
                      refine wb_bald 217 rfl (wy_pr rfl) wt_217 (n := (S 217 (-1))) ((w_up_slot (by decide)).trans ((w_up_slot (by decide)).trans ((w_up_slot (by decide)).trans ((w_up_slot (by decide)).trans (((tr14.2.2.2.1 217 (-1) (by decide) (by decide) (by decide) (Or.inl (by decide))).trans (rfl))))))) (by omega) (by omega) (v := ky) ((w_up_slot (by decide)).trans ((w_up_slot (by decide)).trans ((w_up_slot (by decide)).trans ((w_up_slot (by decide)).trans (((tr14.2.2.2.1 217 (h - 1) (by decide) (by decide) (by decide) (Or.inl (by decide))).trans (hky))))))) (fun r30 => ?_)
                      refine wb_pfi 158 rfl (wy_pr rfl) wt_158 wf_5_16 (n := 16) rfl ⟨(by omega), (by omega)⟩ ?_
                      refine wa_aload_n (n := 0) rfl ?_
                      refine wa_aload_n (n := 0) rfl ?_
                      refine wb_gf5 158 rfl (wy_pr rfl) wt_158 wf_5_5 (v := 216) ((w_up_at (by decide)).trans ((w_up_at (by decide)).trans ((w_up_at (by decide)).trans ((w_up_at (by decide)).trans ((w_up_at (by decide)).trans (((tr14.2.2.2.1 158 5 (by decide) (by decide) (by decide) (Or.inl (by decide))).trans (l5)))))))) (fun r31 => ?_)
                      refine wb_gf4 216 rfl (wy_pr rfl) wt_216 wf_7_1 (v := 218) wl_216_1 ?_
                      refine wa_aload_n (n := 0) rfl ?_
                      refine wb_gf5 158 rfl (wy_pr rfl) wt_158 wf_5_5 (v := 216) ((w_up_at (by decide)).trans ((w_up_at (by decide)).trans ((w_up_at (by decide)).trans ((w_up_at (by decide)).trans ((w_up_at (by decide)).trans (((tr14.2.2.2.1 158 5 (by decide) (by decide) (by decide) (Or.inl (by decide))).trans (l5)))))))) (fun r32 => ?_)
                      refine wb_gfi 216 rfl (wy_pr rfl) wt_216 wf_7_2 (v := h) ((w_up_slot (by decide)).trans ((w_up_slot (by decide)).trans ((w_up_slot (by decide)).trans ((w_up_slot (by decide)).trans ((w_up_slot (by decide)).trans (((tr14.2.2.2.1 216 2 (by decide) (by decide) (by decide) (Or.inl (by decide))).trans (bh)))))))) (fun r33 => ?_)
                      refine wa_iconst ?_
                      refine wa_isub ?_
                      refine wb_lald 218 rfl (wy_pr rfl) wt_218 (n := (S 217 (-1))) ((w_up_slot (by decide)).trans ((w_up_slot (by decide)).trans ((w_up_slot (by decide)).trans ((w_up_slot (by decide)).trans ((w_up_slot (by decide)).trans (((tr14.2.2.2.1 218 (-1) (by decide) (by decide) (by decide) (Or.inl (by decide))).trans (bl1)))))))) (by omega) (by omega) (v := vy) ((w_up_slot (by decide)).trans ((w_up_slot (by decide)).trans ((w_up_slot (by decide)).trans ((w_up_slot (by decide)).trans ((w_up_slot (by decide)).trans (((tr14.2.2.2.1 218 (h - 1) (by decide) (by decide) (by decide) (Or.inl (by decide))).trans (hvy)))))))) (fun r34 => ?_)
                      refine wb_pfl 158 rfl (wy_pr rfl) wt_158 wf_5_17 (n := 17) rfl ⟨(by omega), (by omega)⟩ ?_
                      refine wa_fall ⟨_, rfl⟩ ?_
                      refine wa_aload_n (n := 0) rfl ?_
                      refine wa_aload_n (n := 0) rfl ?_
                      refine wb_gfi 158 rfl (wy_pr rfl) wt_158 wf_5_16 (v := ky) ((w_up_at (by decide)).trans (w_up_same _ _ _ _)) (fun r35 => ?_)
                      refine wa_aload_n (n := 0) rfl ?_
                      refine wb_gfl 158 rfl (wy_pr rfl) wt_158 wf_5_17 (v := vy) (w_up_same _ _ _ _) (fun r36 => ?_)
                      refine wa_cv 158 rfl (wy_pr rfl) wt_158 (M2 := mS [217, 218]) rfl at_XL_giveValue ⟨_, rfl⟩ rfl rfl ⟨trivial, trivial, trivial, (Or.inr ⟨wy_pr rfl, mS_no rfl⟩), (Or.inr ⟨wy_pr rfl, mS_no rfl⟩), trivial, trivial⟩ trivial (fun _ _ q => mS_sub (by decide) q) (glx_215 (S := (w_up (w_up (w_up (w_up (w_up (w_up Sq14 158 16 0) 158 17 0) 158 16 (anK ty)) 158 17 (anB ty (anS m es))) 158 16 ky) 158 17 vy)) (k := ky) (v := vy) (h := h) (c := c) (p := p) (ba := ba) (w_CL_up (w_CL_up (w_CL_up (w_CL_up (w_CL_up (w_CL_up (CL_tr hC tr14) (by omega)) (by omega)) (by omega)) (by omega)) (by omega)) (by omega)) (gI_up (gI_up (gI_up (gI_up (gI_up (gI_up tr14.2.2.2.2.2.1 (by omega) (by omega) (by omega)) (by omega) (by omega) (by omega)) (by omega) (by omega) (by omega)) (by omega) (by omega) (by omega)) (by omega) (by omega) (by omega)) (by omega) (by omega) (by omega)) ((w_up_at (by decide)).trans ((w_up_at (by decide)).trans ((w_up_at (by decide)).trans ((w_up_at (by decide)).trans ((w_up_at (by decide)).trans ((w_up_at (by decide)).trans (((tr14.2.2.2.1 158 4 (by decide) (by decide) (by decide) (Or.inl (by decide))).trans (l4))))))))) ((w_up_at (by decide)).trans ((w_up_at (by decide)).trans ((w_up_at (by decide)).trans ((w_up_at (by decide)).trans ((w_up_at (by decide)).trans ((w_up_at (by decide)).trans (((tr14.2.2.2.1 158 5 (by decide) (by decide) (by decide) (Or.inl (by decide))).trans (l5))))))))) ((w_up_at (by decide)).trans ((w_up_at (by decide)).trans ((w_up_at (by decide)).trans ((w_up_at (by decide)).trans ((w_up_at (by decide)).trans ((w_up_at (by decide)).trans (((tr14.2.2.2.1 158 8 (by decide) (by decide) (by decide) (Or.inl (by decide))).trans (l8))))))))) ((w_up_slot (by decide)).trans ((w_up_slot (by decide)).trans ((w_up_slot (by decide)).trans ((w_up_slot (by decide)).trans ((w_up_slot (by decide)).trans ((w_up_slot (by decide)).trans (((tr14.2.2.2.1 215 4 (by decide) (by decide) (by decide) (Or.inl (by decide))).trans (bc))))))))) ((w_up_slot (by decide)).trans ((w_up_slot (by decide)).trans ((w_up_slot (by decide)).trans ((w_up_slot (by decide)).trans ((w_up_slot (by decide)).trans ((w_up_slot (by decide)).trans (((tr14.2.2.2.1 220 (c - 1) (by decide) (by decide) (by decide) (Or.inl (by decide))).trans (bp))))))))) ((((w_up_slot (by decide)).trans ((w_up_slot (by decide)).trans ((w_up_slot (by decide)).trans ((w_up_slot (by decide)).trans ((w_up_slot (by decide)).trans ((w_up_slot (by decide)).trans (((tr14.2.2.2.1 218 (-1) (by decide) (by decide) (by decide) (Or.inl (by decide))).trans (bl1)))))))))).trans (((w_up_slot (by decide)).trans ((w_up_slot (by decide)).trans ((w_up_slot (by decide)).trans ((w_up_slot (by decide)).trans ((w_up_slot (by decide)).trans ((w_up_slot (by decide)).trans (((tr14.2.2.2.1 217 (-1) (by decide) (by decide) (by decide) (Or.inl (by decide))).trans (rfl)))))))))).symm) (by have e : (w_up (w_up (w_up (w_up (w_up (w_up Sq14 158 16 0) 158 17 0) 158 16 (anK ty)) 158 17 (anB ty (anS m es))) 158 16 ky) 158 17 vy) 217 (-1) = S 217 (-1) := ((w_up_slot (by decide)).trans ((w_up_slot (by decide)).trans ((w_up_slot (by decide)).trans ((w_up_slot (by decide)).trans ((w_up_slot (by decide)).trans ((w_up_slot (by decide)).trans (((tr14.2.2.2.1 217 (-1) (by decide) (by decide) (by decide) (Or.inl (by decide))).trans (rfl))))))))); rw [e]; exact ⟨bl2, bl3⟩) (by have e : (w_up (w_up (w_up (w_up (w_up (w_up Sq14 158 16 0) 158 17 0) 158 16 (anK ty)) 158 17 (anB ty (anS m es))) 158 16 ky) 158 17 vy) 217 (-1) = S 217 (-1) := ((w_up_slot (by decide)).trans ((w_up_slot (by decide)).trans ((w_up_slot (by decide)).trans ((w_up_slot (by decide)).trans ((w_up_slot (by decide)).trans ((w_up_slot (by decide)).trans (((tr14.2.2.2.1 217 (-1) (by decide) (by decide) (by decide) (Or.inl (by decide))).trans (rfl))))))))); omega) ⟨by omega, by omega⟩ ⟨by omega, by omega⟩ ⟨by omega, by omega⟩ ⟨by omega, by omega⟩) (fun oq37 Sq37 hp38 q37 => ?_)
                      rcases q37 with ⟨rfl, hgv37⟩
                      show wJ _ _ _ _ _ _ _ _ _ _
                      refine wa_return rfl ?_
                      refine ⟨rfl, Or.inr ⟨by omega, Sq14, (w_up (w_up (w_up (w_up (w_up (w_up Sq14 158 16 0) 158 17 0) 158 16 (anK ty)) 158 17 (anB ty (anS m es))) 158 16 ky) 158 17 vy), tr14, ?_, ?_⟩⟩
                      · exact fun j i hji => (w_up_no (by omega)).trans ((w_up_no (by omega)).trans ((w_up_no (by omega)).trans ((w_up_no (by omega)).trans ((w_up_no (by omega)).trans ((w_up_no (by omega)).trans (rfl))))))
                      · first | (rw [if_pos (show kd = 1 by omega), if_pos (show kd = 1 by omega)]; exact hgv37) | (rw [if_neg (show ¬ kd = 1 by omega), if_neg (show ¬ kd = 1 by omega)]; exact hgv37)
                  · skip
                    exact absurd c18 (by omega)
                · skip
                  exact absurd c16 (by omega)
              · skip
                exact absurd c12 (by omega)
            · skip
              exact absurd c11 (by omega)
        · skip
          exact absurd c7 (by omega)
      · skip
        exact absurd c6 (by omega)
  · skip
    exact absurd c3 (by omega)
set_option maxHeartbeats 4000000 in
theorem cmg1_162_215 {c p h kd ba m en tn ky vy fl fi gb ty vk vb : Int} (hP : xP 215 c p h S) (l4 : S 158 4 = 215) (l5 : S 158 5 = 216) (l7 : S 158 7 = kd) (l8 : S 158 8 = ba) (l12 : S 158 12 = en) (hen : 0 ≤ en ∧ en ≤ 1000) (hba : 0 ≤ ba ∧ ba < h) (h72 : S 72 1 = 162) (hm : 0 ≤ m ∧ m < 400) (hso : S 187 m = 1) (ht15 : S 72 15 = tn) (ht0 : 0 ≤ tn ∧ tn ≤ S 152 (-1) ∧ tn ≤ 100000) (ht9 : 16 ≤ S 152 (-1) ∧ S 152 (-1) ≤ 131072 ∨ (16 ≤ S 152 (-1) ∧ S 152 (-1) ≤ 262143 ∧ tn + 2 ≤ S 152 (-1))) (hky : S 217 (h - 1) = ky) (hvy : S 218 (h - 1) = vy) (hkr : -128 ≤ ky ∧ ky ≤ 127) (hvr : -9223372036854775808 ≤ vy ∧ vy ≤ 9223372036854775807) (hmf : S 201 m = fl) (hfl : 0 ≤ fl ∧ fl < 400) (hstt : S 188 fl = 1) (hfi : S 201 fl = fi) (l10 : S 158 10 = gb) (hmt : S 189 m = ty) (hmc : S 190 m = 0) (hrl : S 207 (-1) = S 206 (-1)) (hrb : 0 ≤ fi ∧ fi < S 206 (-1) ∧ S 206 (-1) ≤ 8388608) (hvk : S 206 fi = vk) (hvb : S 207 fi = vb) (hvr2 : -128 ≤ vk ∧ vk ≤ 127) (hvs : -9223372036854775808 ≤ vb ∧ vb ≤ 9223372036854775807) : wJ (pe_GA xs) wY0 (mS [217, 218, 152]) (d + 6) t_XL_callMember ((pe_at t_XL_callMember.bl 0).getD (0, [])).2 [(0, (2, 158)), (1, (0, m))] [] S (fun o Z => o = .inl none ∧ ((100000 < tn + 2 ∧ w_up S 215 16 99 = Z) ∨ (¬ (100000 < tn + 2) ∧ cmE 215 h c p (h - ba) kd ky vy vk vb m en gvR S Z))) := by
  obtain ⟨⟨hC, hI⟩, ⟨bc, bc0, bc1⟩, ⟨bp, bp0, bp1⟩, ⟨bh, bh0, bh1, bh2⟩, bl1, bl2, bl3⟩ := hP
  replace bp : S 220 (c - 1) = p := bp
  replace bh : S 216 2 = h := bh
  replace bh2 : h ≤ S 217 (-1) := bh2
  replace bl1 : S 218 (-1) = S 217 (-1) := bl1
  replace bl2 : 64 ≤ S 217 (-1) := bl2
  replace bl3 : S 217 (-1) ≤ 4095 := bl3
  refine wa_aload_n (n := 0) rfl ?_
  refine wb_gf4 158 rfl (wy_pr rfl) wt_158 wf_5_0 (v := 72) wl_158_0 ?_
  refine wb_gf5 72 rfl (wy_pr rfl) wt_72 wf_2_1 (v := 162) (h72) (fun r1 => ?_)
  refine wa_astore_n (n := 2) rfl ?_
  refine wa_aload_n (n := 2) rfl ?_
  refine wb_gf4 162 rfl (wy_pr rfl) wt_162 wf_3_3 (v := 185) wl_162_3 ?_
  refine wa_iconst ?_
  refine wb_aald5 185 1 rfl rfl (wy_pr rfl) wt_185 (by rw [show _ = _ from ((cl_185 hC))]; omega) wl_185_1 ?_
  refine wa_iload_n (n := 1) rfl ?_
  refine wb_iald 187 rfl (wy_pr rfl) wt_187 (n := 400) ((cl_187 hC)) (by omega) (by omega) (v := 1) (hso) (fun r2 => ?_)
  refine wa_iconst ?_
  refine wa_icmpne (w_rg0 (by omega) (by omega)) (w_rg0 (by omega) (by omega)) ⟨_, rfl⟩ (fun c3 => ?_) (fun c3 => ?_)
  · skip
    refine wa_iconst ?_
    refine wa_fall ⟨_, rfl⟩ ?_
    refine wa_istore_n (n := 3) rfl ?_
    refine wa_iload_n (n := 3) rfl ?_
    refine wa_ifne (w_rg0 (by omega) (by omega)) ⟨_, rfl⟩ (fun c4 => ?_) (fun c4 => ?_)
    · skip
      exact absurd c4 (by omega)
    · skip
      refine wa_aload_n (n := 2) rfl ?_
      refine wb_gf4 162 rfl (wy_pr rfl) wt_162 wf_3_3 (v := 185) wl_162_3 ?_
      refine wa_iconst ?_
      refine wb_aald5 185 3 rfl rfl (wy_pr rfl) wt_185 (by rw [show _ = _ from ((cl_185 hC))]; omega) wl_185_3 ?_
      refine wa_iload_n (n := 1) rfl ?_
      refine wb_iald 189 rfl (wy_pr rfl) wt_189 (n := 400) ((cl_189 hC)) (by omega) (by omega) (v := ty) (hmt) (fun r5 => ?_)
      refine wa_bipush (w_rg2 (by omega) (by omega)) ?_
      refine wa_icmpne (w_rg0 (by omega) (by omega)) (w_rg0 (by omega) (by omega)) ⟨_, rfl⟩ (fun c6 => ?_) (fun c6 => ?_)
      · skip
        refine wa_iconst ?_
        refine wa_fall ⟨_, rfl⟩ ?_
        refine wa_istore (n := 4) rfl ?_
        refine wa_iload_n (n := 3) rfl ?_
        refine wa_ifeq (w_rg0 (by omega) (by omega)) ⟨_, rfl⟩ (fun c7 => ?_) (fun c7 => ?_)
        · skip
          refine wa_iconst ?_
          refine wa_fall ⟨_, rfl⟩ ?_
          refine wa_istore (n := 5) rfl ?_
          refine wa_aload_n (n := 0) rfl ?_
          refine wb_gf4 158 rfl (wy_pr rfl) wt_158 wf_5_0 (v := 72) wl_158_0 ?_
          refine wb_gfi 72 rfl (wy_pr rfl) wt_72 wf_2_15 (v := tn) (ht15) (fun r8 => ?_)
          refine wa_iconst ?_
          refine wa_iadd ?_
          refine wb_ki (n := 100000) rfl ?_
          refine wa_icmpgt (w_rg0 (by omega) (by omega)) (w_rg0 (by omega) (by omega)) ⟨_, rfl⟩ (fun c9 => ?_) (fun c9 => ?_)
          · skip
            refine wa_aload_n (n := 0) rfl ?_
            refine wb_gf5 158 rfl (wy_pr rfl) wt_158 wf_5_4 (v := 215) (l4) (fun r10 => ?_)
            refine wa_bipush (w_rg2 (by omega) (by omega)) ?_
            refine wb_pfi 215 rfl (wy_pr rfl) wt_215 wf_8_16 (n := 16) rfl ⟨(by omega), (by omega)⟩ ?_
            refine wa_return rfl ?_
            exact ⟨rfl, Or.inl ⟨by omega, rfl⟩⟩
          · skip
            refine wa_iload_n (n := 3) rfl ?_
            refine wa_ifeq (w_rg0 (by omega) (by omega)) ⟨_, rfl⟩ (fun c11 => ?_) (fun c11 => ?_)
            · skip
              refine wa_iload (n := 4) rfl ?_
              refine wa_ifeq (w_rg0 (by omega) (by omega)) ⟨_, rfl⟩ (fun c12 => ?_) (fun c12 => ?_)
              · skip
                refine wa_aload_n (n := 0) rfl ?_
                refine wb_gf4 158 rfl (wy_pr rfl) wt_158 wf_5_0 (v := 72) wl_158_0 ?_
                refine wa_iload_n (n := 1) rfl ?_
                refine wa_aload_n (n := 0) rfl ?_
                refine wb_gfi 158 rfl (wy_pr rfl) wt_158 wf_5_12 (v := en) (l12) (fun r13 => ?_)
                refine wa_cv 72 rfl (wy_pr rfl) wt_72 (M2 := mS [152]) rfl at_XH_addTrace ⟨_, rfl⟩ rfl rfl ⟨trivial, trivial, trivial, (Or.inr ⟨wy_pr rfl, mS_no rfl⟩), (Or.inr ⟨wy_pr rfl, mS_no rfl⟩), trivial, trivial⟩ trivial (fun _ _ q => mS_sub (by decide) q) (tra (S := S) (m := m) (k := en) hI ⟨by omega, by omega⟩ ⟨by omega, by omega⟩ (by rw [ht15]; exact ht0) (by rw [ht15]; exact ht9)) (fun oq14 Sq14 hp15 q14 => ?_)
                rcases q14 with ⟨rfl, tr14⟩
                show wJ _ _ _ _ _ _ _ _ _ _
                refine wa_aload_n (n := 0) rfl ?_
                refine wa_iconst ?_
                refine wb_pfi 158 rfl (wy_pr rfl) wt_158 wf_5_16 (n := 16) rfl ⟨(by omega), (by omega)⟩ ?_
                refine wa_aload_n (n := 0) rfl ?_
                refine wb_lconst (m := 0) rfl ?_
                refine wb_pfl 158 rfl (wy_pr rfl) wt_158 wf_5_17 (n := 17) rfl ⟨(by omega), (by omega)⟩ ?_
                refine wa_iload_n (n := 3) rfl ?_
                refine wa_ifeq (w_rg0 (by omega) (by omega)) ⟨_, rfl⟩ (fun c16 => ?_) (fun c16 => ?_)
                · skip
                  refine wa_aload_n (n := 2) rfl ?_
                  refine wb_gf4 162 rfl (wy_pr rfl) wt_162 wf_3_3 (v := 185) wl_162_3 ?_
                  refine wa_bipush (w_rg2 (by omega) (by omega)) ?_
                  refine wb_aald5 185 15 rfl rfl (wy_pr rfl) wt_185 (by rw [show _ = _ from ((w_up_slot (by decide)).trans ((w_up_slot (by decide)).trans (((tr14.2.2.2.1 185 (-1) (by decide) (by decide) (by decide) (Or.inl (by decide))).trans ((cl_185 hC))))))]; omega) wl_185_15 ?_
                  refine wa_iload_n (n := 1) rfl ?_
                  refine wb_iald 201 rfl (wy_pr rfl) wt_201 (n := 400) ((w_up_slot (by decide)).trans ((w_up_slot (by decide)).trans (((tr14.2.2.2.1 201 (-1) (by decide) (by decide) (by decide) (Or.inl (by decide))).trans ((cl_201 hC)))))) (by omega) (by omega) (v := fl) ((w_up_slot (by decide)).trans ((w_up_slot (by decide)).trans (((tr14.2.2.2.1 201 m (by decide) (by decide) (by decide) (Or.inl (by decide))).trans (hmf))))) (fun r17 => ?_)
                  refine wa_iconst ?_
                  refine wa_icmpeq (w_rg0 (by omega) (by omega)) (w_rg0 (by omega) (by omega)) ⟨_, rfl⟩ (fun c18 => ?_) (fun c18 => ?_)
                  · skip
                    exact absurd c18 (by omega)
                  · skip
                    refine wa_aload_n (n := 0) rfl ?_
                    refine wa_iload_n (n := 1) rfl ?_
                    refine wa_aload_n (n := 2) rfl ?_
                    refine wb_gf4 162 rfl (wy_pr rfl) wt_162 wf_3_3 (v := 185) wl_162_3 ?_
                    refine wa_bipush (w_rg2 (by omega) (by omega)) ?_
                    refine wb_aald5 185 15 rfl rfl (wy_pr rfl) wt_185 (by rw [show _ = _ from ((w_up_slot (by decide)).trans ((w_up_slot (by decide)).trans (((tr14.2.2.2.1 185 (-1) (by decide) (by decide) (by decide) (Or.inl (by decide))).trans ((cl_185 hC))))))]; omega) wl_185_15 ?_
                    refine wa_iload_n (n := 1) rfl ?_
                    refine wb_iald 201 rfl (wy_pr rfl) wt_201 (n := 400) ((w_up_slot (by decide)).trans ((w_up_slot (by decide)).trans (((tr14.2.2.2.1 201 (-1) (by decide) (by decide) (by decide) (Or.inl (by decide))).trans ((cl_201 hC)))))) (by omega) (by omega) (v := fl) ((w_up_slot (by decide)).trans ((w_up_slot (by decide)).trans (((tr14.2.2.2.1 201 m (by decide) (by decide) (by decide) (Or.inl (by decide))).trans (hmf))))) (fun r19 => ?_)
                    have hf2 : ∀ (j : Nat) (i : Int), j < 4000000 → j ≠ wG → j ≠ 152 → j ≠ 72 → j ≠ 158 → (w_up (w_up Sq14 158 16 0) 158 17 0) j i = S j i := fun j i a b c d e => (w_up_no (fun z => e z.1)).trans ((w_up_no (fun z => e z.1)).trans (tr14.2.2.2.1 j i a b c (Or.inl d)))
                    have el : (w_up (w_up Sq14 158 16 0) 158 17 0) 206 (-1) = S 206 (-1) := (hf2 206 _ (by first | decide | omega) (by first | decide | omega) (by first | decide | omega) (by first | decide | omega) (by first | decide | omega))
                    have el2 : (w_up (w_up Sq14 158 16 0) 158 17 0) 207 (-1) = S 207 (-1) := (hf2 207 _ (by first | decide | omega) (by first | decide | omega) (by first | decide | omega) (by first | decide | omega) (by first | decide | omega))
                    refine wa_cv 158 rfl (wy_pr rfl) wt_158 (M2 := fun _ => False) rfl at_XL_useField ⟨_, rfl⟩ rfl rfl ⟨trivial, trivial, trivial, (Or.inr ⟨wy_pr rfl, fun q => q⟩), (Or.inr ⟨wy_pr rfl, fun q => q⟩), trivial, trivial⟩ trivial (fun _ _ q => False.elim q) (usg1_162_215 (S := (w_up (w_up Sq14 158 16 0) 158 17 0)) (m := m) (f := fl) (w_CL_up (w_CL_up (CL_tr hC tr14) (by omega)) (by omega)) ((w_up_slot (by decide)).trans ((w_up_slot (by decide)).trans (((tr14.2.2.2.1 72 1 (by decide) (by decide) (by decide) (Or.inr (by decide))).trans (h72))))) ((w_up_at (by decide)).trans ((w_up_at (by decide)).trans (((tr14.2.2.2.1 158 5 (by decide) (by decide) (by decide) (Or.inl (by decide))).trans (l5))))) ((w_up_at (by decide)).trans ((w_up_at (by decide)).trans (((tr14.2.2.2.1 158 8 (by decide) (by decide) (by decide) (Or.inl (by decide))).trans (l8))))) (((w_up_at (by decide)).trans ((w_up_at (by decide)).trans ((tr14.2.2.2.1 158 10 (by decide) (by decide) (by decide) (Or.inl (by decide)))))).trans l10) hm hfl ((hf2 188 _ (by decide) (by decide) (by decide) (by decide) (by decide)).trans hstt) ((hf2 201 _ (by decide) (by decide) (by decide) (by decide) (by decide)).trans hfi) (by rw [el, el2]; exact hrl) (by rw [el]; exact hrb) ((hf2 190 _ (by decide) (by decide) (by decide) (by decide) (by decide)).trans hmc) ((hf2 206 _ (by decide) (by decide) (by decide) (by decide) (by decide)).trans hvk) ((hf2 207 _ (by decide) (by decide) (by decide) (by decide) (by decide)).trans hvb)) (fun oq20 Sq20 hp21 q20 => ?_)
                    rcases q20 with ⟨rfl, rfl⟩
                    show wJ _ _ _ _ _ _ _ _ _ _
                    refine wa_goto ⟨_, rfl⟩ ?_
                    refine wa_aload_n (n := 0) rfl ?_
                    refine wb_gfi 158 rfl (wy_pr rfl) wt_158 wf_5_7 (v := kd) ((w_up_at (by decide)).trans ((w_up_at (by decide)).trans ((w_up_at (by decide)).trans ((w_up_at (by decide)).trans (((tr14.2.2.2.1 158 7 (by decide) (by decide) (by decide) (Or.inl (by decide))).trans (l7))))))) (fun r22 => ?_)
                    refine wa_iconst ?_
                    refine wa_icmpne (w_rg0 (by omega) (by omega)) (w_rg0 (by omega) (by omega)) ⟨_, rfl⟩ (fun c23 => ?_) (fun c23 => ?_)
                    · skip
                      refine wa_aload_n (n := 0) rfl ?_
                      refine wa_aload_n (n := 0) rfl ?_
                      refine wb_gfi 158 rfl (wy_pr rfl) wt_158 wf_5_16 (v := vk) ((w_up_at (by decide)).trans (w_up_same _ _ _ _)) (fun r24 => ?_)
                      refine wa_aload_n (n := 0) rfl ?_
                      refine wb_gfl 158 rfl (wy_pr rfl) wt_158 wf_5_17 (v := vb) (w_up_same _ _ _ _) (fun r25 => ?_)
                      refine wa_cv 158 rfl (wy_pr rfl) wt_158 (M2 := mS [217, 218]) rfl at_XL_giveValue ⟨_, rfl⟩ rfl rfl ⟨trivial, trivial, trivial, (Or.inr ⟨wy_pr rfl, mS_no rfl⟩), (Or.inr ⟨wy_pr rfl, mS_no rfl⟩), trivial, trivial⟩ trivial (fun _ _ q => mS_sub (by decide) q) (glx_215 (S := (w_up (w_up (w_up (w_up Sq14 158 16 0) 158 17 0) 158 16 vk) 158 17 vb)) (k := vk) (v := vb) (h := h) (c := c) (p := p) (ba := ba) (w_CL_up (w_CL_up (w_CL_up (w_CL_up (CL_tr hC tr14) (by omega)) (by omega)) (by omega)) (by omega)) (gI_up (gI_up (gI_up (gI_up tr14.2.2.2.2.2.1 (by omega) (by omega) (by omega)) (by omega) (by omega) (by omega)) (by omega) (by omega) (by omega)) (by omega) (by omega) (by omega)) ((w_up_at (by decide)).trans ((w_up_at (by decide)).trans ((w_up_at (by decide)).trans ((w_up_at (by decide)).trans (((tr14.2.2.2.1 158 4 (by decide) (by decide) (by decide) (Or.inl (by decide))).trans (l4))))))) ((w_up_at (by decide)).trans ((w_up_at (by decide)).trans ((w_up_at (by decide)).trans ((w_up_at (by decide)).trans (((tr14.2.2.2.1 158 5 (by decide) (by decide) (by decide) (Or.inl (by decide))).trans (l5))))))) ((w_up_at (by decide)).trans ((w_up_at (by decide)).trans ((w_up_at (by decide)).trans ((w_up_at (by decide)).trans (((tr14.2.2.2.1 158 8 (by decide) (by decide) (by decide) (Or.inl (by decide))).trans (l8))))))) ((w_up_slot (by decide)).trans ((w_up_slot (by decide)).trans ((w_up_slot (by decide)).trans ((w_up_slot (by decide)).trans (((tr14.2.2.2.1 215 4 (by decide) (by decide) (by decide) (Or.inl (by decide))).trans (bc))))))) ((w_up_slot (by decide)).trans ((w_up_slot (by decide)).trans ((w_up_slot (by decide)).trans ((w_up_slot (by decide)).trans (((tr14.2.2.2.1 220 (c - 1) (by decide) (by decide) (by decide) (Or.inl (by decide))).trans (bp))))))) ((((w_up_slot (by decide)).trans ((w_up_slot (by decide)).trans ((w_up_slot (by decide)).trans ((w_up_slot (by decide)).trans (((tr14.2.2.2.1 218 (-1) (by decide) (by decide) (by decide) (Or.inl (by decide))).trans (bl1)))))))).trans (((w_up_slot (by decide)).trans ((w_up_slot (by decide)).trans ((w_up_slot (by decide)).trans ((w_up_slot (by decide)).trans (((tr14.2.2.2.1 217 (-1) (by decide) (by decide) (by decide) (Or.inl (by decide))).trans (rfl)))))))).symm) (by have e : (w_up (w_up (w_up (w_up Sq14 158 16 0) 158 17 0) 158 16 vk) 158 17 vb) 217 (-1) = S 217 (-1) := ((w_up_slot (by decide)).trans ((w_up_slot (by decide)).trans ((w_up_slot (by decide)).trans ((w_up_slot (by decide)).trans (((tr14.2.2.2.1 217 (-1) (by decide) (by decide) (by decide) (Or.inl (by decide))).trans (rfl))))))); rw [e]; exact ⟨bl2, bl3⟩) (by have e : (w_up (w_up (w_up (w_up Sq14 158 16 0) 158 17 0) 158 16 vk) 158 17 vb) 217 (-1) = S 217 (-1) := ((w_up_slot (by decide)).trans ((w_up_slot (by decide)).trans ((w_up_slot (by decide)).trans ((w_up_slot (by decide)).trans (((tr14.2.2.2.1 217 (-1) (by decide) (by decide) (by decide) (Or.inl (by decide))).trans (rfl))))))); omega) ⟨by omega, by omega⟩ ⟨by omega, by omega⟩ ⟨by omega, by omega⟩ ⟨by omega, by omega⟩) (fun oq26 Sq26 hp27 q26 => ?_)
                      rcases q26 with ⟨rfl, hgv26⟩
                      show wJ _ _ _ _ _ _ _ _ _ _
                      refine wa_return rfl ?_
                      refine ⟨rfl, Or.inr ⟨by omega, Sq14, (w_up (w_up (w_up (w_up Sq14 158 16 0) 158 17 0) 158 16 vk) 158 17 vb), tr14, ?_, ?_⟩⟩
                      · exact fun j i hji => (w_up_no (by omega)).trans ((w_up_no (by omega)).trans ((w_up_no (by omega)).trans ((w_up_no (by omega)).trans (rfl))))
                      · first | (rw [if_pos (show kd = 1 by omega), if_pos (show kd = 1 by omega)]; exact hgv26) | (rw [if_neg (show ¬ kd = 1 by omega), if_neg (show ¬ kd = 1 by omega)]; exact hgv26)
                    · skip
                      refine wa_aload_n (n := 0) rfl ?_
                      refine wa_aload_n (n := 0) rfl ?_
                      refine wb_gf5 158 rfl (wy_pr rfl) wt_158 wf_5_5 (v := 216) ((w_up_at (by decide)).trans ((w_up_at (by decide)).trans ((w_up_at (by decide)).trans ((w_up_at (by decide)).trans (((tr14.2.2.2.1 158 5 (by decide) (by decide) (by decide) (Or.inl (by decide))).trans (l5))))))) (fun r28 => ?_)
                      refine wb_gf4 216 rfl (wy_pr rfl) wt_216 wf_7_0 (v := 217) wl_216_0 ?_
                      refine wa_aload_n (n := 0) rfl ?_
                      refine wb_gf5 158 rfl (wy_pr rfl) wt_158 wf_5_5 (v := 216) ((w_up_at (by decide)).trans ((w_up_at (by decide)).trans ((w_up_at (by decide)).trans ((w_up_at (by decide)).trans (((tr14.2.2.2.1 158 5 (by decide) (by decide) (by decide) (Or.inl (by decide))).trans (l5))))))) (fun r29 => ?_)
                      refine wb_gfi 216 rfl (wy_pr rfl) wt_216 wf_7_2 (v := h) ((w_up_slot (by decide)).trans ((w_up_slot (by decide)).trans ((w_up_slot (by decide)).trans ((w_up_slot (by decide)).trans (((tr14.2.2.2.1 216 2 (by decide) (by decide) (by decide) (Or.inl (by decide))).trans (bh))))))) (fun r30 => ?_)
                      refine wa_iconst ?_
                      refine wa_isub ?_
                      refine wb_bald 217 rfl (wy_pr rfl) wt_217 (n := (S 217 (-1))) ((w_up_slot (by decide)).trans ((w_up_slot (by decide)).trans ((w_up_slot (by decide)).trans ((w_up_slot (by decide)).trans (((tr14.2.2.2.1 217 (-1) (by decide) (by decide) (by decide) (Or.inl (by decide))).trans (rfl))))))) (by omega) (by omega) (v := ky) ((w_up_slot (by decide)).trans ((w_up_slot (by decide)).trans ((w_up_slot (by decide)).trans ((w_up_slot (by decide)).trans (((tr14.2.2.2.1 217 (h - 1) (by decide) (by decide) (by decide) (Or.inl (by decide))).trans (hky))))))) (fun r31 => ?_)
                      refine wb_pfi 158 rfl (wy_pr rfl) wt_158 wf_5_16 (n := 16) rfl ⟨(by omega), (by omega)⟩ ?_
                      refine wa_aload_n (n := 0) rfl ?_
                      refine wa_aload_n (n := 0) rfl ?_
                      refine wb_gf5 158 rfl (wy_pr rfl) wt_158 wf_5_5 (v := 216) ((w_up_at (by decide)).trans ((w_up_at (by decide)).trans ((w_up_at (by decide)).trans ((w_up_at (by decide)).trans ((w_up_at (by decide)).trans (((tr14.2.2.2.1 158 5 (by decide) (by decide) (by decide) (Or.inl (by decide))).trans (l5)))))))) (fun r32 => ?_)
                      refine wb_gf4 216 rfl (wy_pr rfl) wt_216 wf_7_1 (v := 218) wl_216_1 ?_
                      refine wa_aload_n (n := 0) rfl ?_
                      refine wb_gf5 158 rfl (wy_pr rfl) wt_158 wf_5_5 (v := 216) ((w_up_at (by decide)).trans ((w_up_at (by decide)).trans ((w_up_at (by decide)).trans ((w_up_at (by decide)).trans ((w_up_at (by decide)).trans (((tr14.2.2.2.1 158 5 (by decide) (by decide) (by decide) (Or.inl (by decide))).trans (l5)))))))) (fun r33 => ?_)
                      refine wb_gfi 216 rfl (wy_pr rfl) wt_216 wf_7_2 (v := h) ((w_up_slot (by decide)).trans ((w_up_slot (by decide)).trans ((w_up_slot (by decide)).trans ((w_up_slot (by decide)).trans ((w_up_slot (by decide)).trans (((tr14.2.2.2.1 216 2 (by decide) (by decide) (by decide) (Or.inl (by decide))).trans (bh)))))))) (fun r34 => ?_)
                      refine wa_iconst ?_
                      refine wa_isub ?_
                      refine wb_lald 218 rfl (wy_pr rfl) wt_218 (n := (S 217 (-1))) ((w_up_slot (by decide)).trans ((w_up_slot (by decide)).trans ((w_up_slot (by decide)).trans ((w_up_slot (by decide)).trans ((w_up_slot (by decide)).trans (((tr14.2.2.2.1 218 (-1) (by decide) (by decide) (by decide) (Or.inl (by decide))).trans (bl1)))))))) (by omega) (by omega) (v := vy) ((w_up_slot (by decide)).trans ((w_up_slot (by decide)).trans ((w_up_slot (by decide)).trans ((w_up_slot (by decide)).trans ((w_up_slot (by decide)).trans (((tr14.2.2.2.1 218 (h - 1) (by decide) (by decide) (by decide) (Or.inl (by decide))).trans (hvy)))))))) (fun r35 => ?_)
                      refine wb_pfl 158 rfl (wy_pr rfl) wt_158 wf_5_17 (n := 17) rfl ⟨(by omega), (by omega)⟩ ?_
                      refine wa_fall ⟨_, rfl⟩ ?_
                      refine wa_aload_n (n := 0) rfl ?_
                      refine wa_aload_n (n := 0) rfl ?_
                      refine wb_gfi 158 rfl (wy_pr rfl) wt_158 wf_5_16 (v := ky) ((w_up_at (by decide)).trans (w_up_same _ _ _ _)) (fun r36 => ?_)
                      refine wa_aload_n (n := 0) rfl ?_
                      refine wb_gfl 158 rfl (wy_pr rfl) wt_158 wf_5_17 (v := vy) (w_up_same _ _ _ _) (fun r37 => ?_)
                      refine wa_cv 158 rfl (wy_pr rfl) wt_158 (M2 := mS [217, 218]) rfl at_XL_giveValue ⟨_, rfl⟩ rfl rfl ⟨trivial, trivial, trivial, (Or.inr ⟨wy_pr rfl, mS_no rfl⟩), (Or.inr ⟨wy_pr rfl, mS_no rfl⟩), trivial, trivial⟩ trivial (fun _ _ q => mS_sub (by decide) q) (glx_215 (S := (w_up (w_up (w_up (w_up (w_up (w_up Sq14 158 16 0) 158 17 0) 158 16 vk) 158 17 vb) 158 16 ky) 158 17 vy)) (k := ky) (v := vy) (h := h) (c := c) (p := p) (ba := ba) (w_CL_up (w_CL_up (w_CL_up (w_CL_up (w_CL_up (w_CL_up (CL_tr hC tr14) (by omega)) (by omega)) (by omega)) (by omega)) (by omega)) (by omega)) (gI_up (gI_up (gI_up (gI_up (gI_up (gI_up tr14.2.2.2.2.2.1 (by omega) (by omega) (by omega)) (by omega) (by omega) (by omega)) (by omega) (by omega) (by omega)) (by omega) (by omega) (by omega)) (by omega) (by omega) (by omega)) (by omega) (by omega) (by omega)) ((w_up_at (by decide)).trans ((w_up_at (by decide)).trans ((w_up_at (by decide)).trans ((w_up_at (by decide)).trans ((w_up_at (by decide)).trans ((w_up_at (by decide)).trans (((tr14.2.2.2.1 158 4 (by decide) (by decide) (by decide) (Or.inl (by decide))).trans (l4))))))))) ((w_up_at (by decide)).trans ((w_up_at (by decide)).trans ((w_up_at (by decide)).trans ((w_up_at (by decide)).trans ((w_up_at (by decide)).trans ((w_up_at (by decide)).trans (((tr14.2.2.2.1 158 5 (by decide) (by decide) (by decide) (Or.inl (by decide))).trans (l5))))))))) ((w_up_at (by decide)).trans ((w_up_at (by decide)).trans ((w_up_at (by decide)).trans ((w_up_at (by decide)).trans ((w_up_at (by decide)).trans ((w_up_at (by decide)).trans (((tr14.2.2.2.1 158 8 (by decide) (by decide) (by decide) (Or.inl (by decide))).trans (l8))))))))) ((w_up_slot (by decide)).trans ((w_up_slot (by decide)).trans ((w_up_slot (by decide)).trans ((w_up_slot (by decide)).trans ((w_up_slot (by decide)).trans ((w_up_slot (by decide)).trans (((tr14.2.2.2.1 215 4 (by decide) (by decide) (by decide) (Or.inl (by decide))).trans (bc))))))))) ((w_up_slot (by decide)).trans ((w_up_slot (by decide)).trans ((w_up_slot (by decide)).trans ((w_up_slot (by decide)).trans ((w_up_slot (by decide)).trans ((w_up_slot (by decide)).trans (((tr14.2.2.2.1 220 (c - 1) (by decide) (by decide) (by decide) (Or.inl (by decide))).trans (bp))))))))) ((((w_up_slot (by decide)).trans ((w_up_slot (by decide)).trans ((w_up_slot (by decide)).trans ((w_up_slot (by decide)).trans ((w_up_slot (by decide)).trans ((w_up_slot (by decide)).trans (((tr14.2.2.2.1 218 (-1) (by decide) (by decide) (by decide) (Or.inl (by decide))).trans (bl1)))))))))).trans (((w_up_slot (by decide)).trans ((w_up_slot (by decide)).trans ((w_up_slot (by decide)).trans ((w_up_slot (by decide)).trans ((w_up_slot (by decide)).trans ((w_up_slot (by decide)).trans (((tr14.2.2.2.1 217 (-1) (by decide) (by decide) (by decide) (Or.inl (by decide))).trans (rfl)))))))))).symm) (by have e : (w_up (w_up (w_up (w_up (w_up (w_up Sq14 158 16 0) 158 17 0) 158 16 vk) 158 17 vb) 158 16 ky) 158 17 vy) 217 (-1) = S 217 (-1) := ((w_up_slot (by decide)).trans ((w_up_slot (by decide)).trans ((w_up_slot (by decide)).trans ((w_up_slot (by decide)).trans ((w_up_slot (by decide)).trans ((w_up_slot (by decide)).trans (((tr14.2.2.2.1 217 (-1) (by decide) (by decide) (by decide) (Or.inl (by decide))).trans (rfl))))))))); rw [e]; exact ⟨bl2, bl3⟩) (by have e : (w_up (w_up (w_up (w_up (w_up (w_up Sq14 158 16 0) 158 17 0) 158 16 vk) 158 17 vb) 158 16 ky) 158 17 vy) 217 (-1) = S 217 (-1) := ((w_up_slot (by decide)).trans ((w_up_slot (by decide)).trans ((w_up_slot (by decide)).trans ((w_up_slot (by decide)).trans ((w_up_slot (by decide)).trans ((w_up_slot (by decide)).trans (((tr14.2.2.2.1 217 (-1) (by decide) (by decide) (by decide) (Or.inl (by decide))).trans (rfl))))))))); omega) ⟨by omega, by omega⟩ ⟨by omega, by omega⟩ ⟨by omega, by omega⟩ ⟨by omega, by omega⟩) (fun oq38 Sq38 hp39 q38 => ?_)
                      rcases q38 with ⟨rfl, hgv38⟩
                      show wJ _ _ _ _ _ _ _ _ _ _
                      refine wa_return rfl ?_
                      refine ⟨rfl, Or.inr ⟨by omega, Sq14, (w_up (w_up (w_up (w_up (w_up (w_up Sq14 158 16 0) 158 17 0) 158 16 vk) 158 17 vb) 158 16 ky) 158 17 vy), tr14, ?_, ?_⟩⟩
                      · exact fun j i hji => (w_up_no (by omega)).trans ((w_up_no (by omega)).trans ((w_up_no (by omega)).trans ((w_up_no (by omega)).trans ((w_up_no (by omega)).trans ((w_up_no (by omega)).trans (rfl))))))
                      · first | (rw [if_pos (show kd = 1 by omega), if_pos (show kd = 1 by omega)]; exact hgv38) | (rw [if_neg (show ¬ kd = 1 by omega), if_neg (show ¬ kd = 1 by omega)]; exact hgv38)
                · skip
                  exact absurd c16 (by omega)
              · skip
                exact absurd c12 (by omega)
            · skip
              exact absurd c11 (by omega)
        · skip
          exact absurd c7 (by omega)
      · skip
        refine wa_aload_n (n := 2) rfl ?_
        refine wb_gf4 162 rfl (wy_pr rfl) wt_162 wf_3_3 (v := 185) wl_162_3 ?_
        refine wa_bipush (w_rg2 (by omega) (by omega)) ?_
        refine wb_aald5 185 15 rfl rfl (wy_pr rfl) wt_185 (by rw [show _ = _ from ((cl_185 hC))]; omega) wl_185_15 ?_
        refine wa_iload_n (n := 1) rfl ?_
        refine wb_iald 201 rfl (wy_pr rfl) wt_201 (n := 400) ((cl_201 hC)) (by omega) (by omega) (v := fl) (hmf) (fun r40 => ?_)
        refine wa_iconst ?_
        refine wa_icmpne (w_rg0 (by omega) (by omega)) (w_rg0 (by omega) (by omega)) ⟨_, rfl⟩ (fun c41 => ?_) (fun c41 => ?_)
        · skip
          refine wa_iconst ?_
          refine wa_fall ⟨_, rfl⟩ ?_
          refine wa_istore (n := 4) rfl ?_
          refine wa_iload_n (n := 3) rfl ?_
          refine wa_ifeq (w_rg0 (by omega) (by omega)) ⟨_, rfl⟩ (fun c42 => ?_) (fun c42 => ?_)
          · skip
            refine wa_iconst ?_
            refine wa_fall ⟨_, rfl⟩ ?_
            refine wa_istore (n := 5) rfl ?_
            refine wa_aload_n (n := 0) rfl ?_
            refine wb_gf4 158 rfl (wy_pr rfl) wt_158 wf_5_0 (v := 72) wl_158_0 ?_
            refine wb_gfi 72 rfl (wy_pr rfl) wt_72 wf_2_15 (v := tn) (ht15) (fun r43 => ?_)
            refine wa_iconst ?_
            refine wa_iadd ?_
            refine wb_ki (n := 100000) rfl ?_
            refine wa_icmpgt (w_rg0 (by omega) (by omega)) (w_rg0 (by omega) (by omega)) ⟨_, rfl⟩ (fun c44 => ?_) (fun c44 => ?_)
            · skip
              refine wa_aload_n (n := 0) rfl ?_
              refine wb_gf5 158 rfl (wy_pr rfl) wt_158 wf_5_4 (v := 215) (l4) (fun r45 => ?_)
              refine wa_bipush (w_rg2 (by omega) (by omega)) ?_
              refine wb_pfi 215 rfl (wy_pr rfl) wt_215 wf_8_16 (n := 16) rfl ⟨(by omega), (by omega)⟩ ?_
              refine wa_return rfl ?_
              exact ⟨rfl, Or.inl ⟨by omega, rfl⟩⟩
            · skip
              refine wa_iload_n (n := 3) rfl ?_
              refine wa_ifeq (w_rg0 (by omega) (by omega)) ⟨_, rfl⟩ (fun c46 => ?_) (fun c46 => ?_)
              · skip
                refine wa_iload (n := 4) rfl ?_
                refine wa_ifeq (w_rg0 (by omega) (by omega)) ⟨_, rfl⟩ (fun c47 => ?_) (fun c47 => ?_)
                · skip
                  refine wa_aload_n (n := 0) rfl ?_
                  refine wb_gf4 158 rfl (wy_pr rfl) wt_158 wf_5_0 (v := 72) wl_158_0 ?_
                  refine wa_iload_n (n := 1) rfl ?_
                  refine wa_aload_n (n := 0) rfl ?_
                  refine wb_gfi 158 rfl (wy_pr rfl) wt_158 wf_5_12 (v := en) (l12) (fun r48 => ?_)
                  refine wa_cv 72 rfl (wy_pr rfl) wt_72 (M2 := mS [152]) rfl at_XH_addTrace ⟨_, rfl⟩ rfl rfl ⟨trivial, trivial, trivial, (Or.inr ⟨wy_pr rfl, mS_no rfl⟩), (Or.inr ⟨wy_pr rfl, mS_no rfl⟩), trivial, trivial⟩ trivial (fun _ _ q => mS_sub (by decide) q) (tra (S := S) (m := m) (k := en) hI ⟨by omega, by omega⟩ ⟨by omega, by omega⟩ (by rw [ht15]; exact ht0) (by rw [ht15]; exact ht9)) (fun oq49 Sq49 hp50 q49 => ?_)
                  rcases q49 with ⟨rfl, tr49⟩
                  show wJ _ _ _ _ _ _ _ _ _ _
                  refine wa_aload_n (n := 0) rfl ?_
                  refine wa_iconst ?_
                  refine wb_pfi 158 rfl (wy_pr rfl) wt_158 wf_5_16 (n := 16) rfl ⟨(by omega), (by omega)⟩ ?_
                  refine wa_aload_n (n := 0) rfl ?_
                  refine wb_lconst (m := 0) rfl ?_
                  refine wb_pfl 158 rfl (wy_pr rfl) wt_158 wf_5_17 (n := 17) rfl ⟨(by omega), (by omega)⟩ ?_
                  refine wa_iload_n (n := 3) rfl ?_
                  refine wa_ifeq (w_rg0 (by omega) (by omega)) ⟨_, rfl⟩ (fun c51 => ?_) (fun c51 => ?_)
                  · skip
                    refine wa_aload_n (n := 2) rfl ?_
                    refine wb_gf4 162 rfl (wy_pr rfl) wt_162 wf_3_3 (v := 185) wl_162_3 ?_
                    refine wa_bipush (w_rg2 (by omega) (by omega)) ?_
                    refine wb_aald5 185 15 rfl rfl (wy_pr rfl) wt_185 (by rw [show _ = _ from ((w_up_slot (by decide)).trans ((w_up_slot (by decide)).trans (((tr49.2.2.2.1 185 (-1) (by decide) (by decide) (by decide) (Or.inl (by decide))).trans ((cl_185 hC))))))]; omega) wl_185_15 ?_
                    refine wa_iload_n (n := 1) rfl ?_
                    refine wb_iald 201 rfl (wy_pr rfl) wt_201 (n := 400) ((w_up_slot (by decide)).trans ((w_up_slot (by decide)).trans (((tr49.2.2.2.1 201 (-1) (by decide) (by decide) (by decide) (Or.inl (by decide))).trans ((cl_201 hC)))))) (by omega) (by omega) (v := fl) ((w_up_slot (by decide)).trans ((w_up_slot (by decide)).trans (((tr49.2.2.2.1 201 m (by decide) (by decide) (by decide) (Or.inl (by decide))).trans (hmf))))) (fun r52 => ?_)
                    refine wa_iconst ?_
                    refine wa_icmpeq (w_rg0 (by omega) (by omega)) (w_rg0 (by omega) (by omega)) ⟨_, rfl⟩ (fun c53 => ?_) (fun c53 => ?_)
                    · skip
                      exact absurd c53 (by omega)
                    · skip
                      refine wa_aload_n (n := 0) rfl ?_
                      refine wa_iload_n (n := 1) rfl ?_
                      refine wa_aload_n (n := 2) rfl ?_
                      refine wb_gf4 162 rfl (wy_pr rfl) wt_162 wf_3_3 (v := 185) wl_162_3 ?_
                      refine wa_bipush (w_rg2 (by omega) (by omega)) ?_
                      refine wb_aald5 185 15 rfl rfl (wy_pr rfl) wt_185 (by rw [show _ = _ from ((w_up_slot (by decide)).trans ((w_up_slot (by decide)).trans (((tr49.2.2.2.1 185 (-1) (by decide) (by decide) (by decide) (Or.inl (by decide))).trans ((cl_185 hC))))))]; omega) wl_185_15 ?_
                      refine wa_iload_n (n := 1) rfl ?_
                      refine wb_iald 201 rfl (wy_pr rfl) wt_201 (n := 400) ((w_up_slot (by decide)).trans ((w_up_slot (by decide)).trans (((tr49.2.2.2.1 201 (-1) (by decide) (by decide) (by decide) (Or.inl (by decide))).trans ((cl_201 hC)))))) (by omega) (by omega) (v := fl) ((w_up_slot (by decide)).trans ((w_up_slot (by decide)).trans (((tr49.2.2.2.1 201 m (by decide) (by decide) (by decide) (Or.inl (by decide))).trans (hmf))))) (fun r54 => ?_)
                      have hf2 : ∀ (j : Nat) (i : Int), j < 4000000 → j ≠ wG → j ≠ 152 → j ≠ 72 → j ≠ 158 → (w_up (w_up Sq49 158 16 0) 158 17 0) j i = S j i := fun j i a b c d e => (w_up_no (fun z => e z.1)).trans ((w_up_no (fun z => e z.1)).trans (tr49.2.2.2.1 j i a b c (Or.inl d)))
                      have el : (w_up (w_up Sq49 158 16 0) 158 17 0) 206 (-1) = S 206 (-1) := (hf2 206 _ (by first | decide | omega) (by first | decide | omega) (by first | decide | omega) (by first | decide | omega) (by first | decide | omega))
                      have el2 : (w_up (w_up Sq49 158 16 0) 158 17 0) 207 (-1) = S 207 (-1) := (hf2 207 _ (by first | decide | omega) (by first | decide | omega) (by first | decide | omega) (by first | decide | omega) (by first | decide | omega))
                      refine wa_cv 158 rfl (wy_pr rfl) wt_158 (M2 := fun _ => False) rfl at_XL_useField ⟨_, rfl⟩ rfl rfl ⟨trivial, trivial, trivial, (Or.inr ⟨wy_pr rfl, fun q => q⟩), (Or.inr ⟨wy_pr rfl, fun q => q⟩), trivial, trivial⟩ trivial (fun _ _ q => False.elim q) (usg1_162_215 (S := (w_up (w_up Sq49 158 16 0) 158 17 0)) (m := m) (f := fl) (w_CL_up (w_CL_up (CL_tr hC tr49) (by omega)) (by omega)) ((w_up_slot (by decide)).trans ((w_up_slot (by decide)).trans (((tr49.2.2.2.1 72 1 (by decide) (by decide) (by decide) (Or.inr (by decide))).trans (h72))))) ((w_up_at (by decide)).trans ((w_up_at (by decide)).trans (((tr49.2.2.2.1 158 5 (by decide) (by decide) (by decide) (Or.inl (by decide))).trans (l5))))) ((w_up_at (by decide)).trans ((w_up_at (by decide)).trans (((tr49.2.2.2.1 158 8 (by decide) (by decide) (by decide) (Or.inl (by decide))).trans (l8))))) (((w_up_at (by decide)).trans ((w_up_at (by decide)).trans ((tr49.2.2.2.1 158 10 (by decide) (by decide) (by decide) (Or.inl (by decide)))))).trans l10) hm hfl ((hf2 188 _ (by decide) (by decide) (by decide) (by decide) (by decide)).trans hstt) ((hf2 201 _ (by decide) (by decide) (by decide) (by decide) (by decide)).trans hfi) (by rw [el, el2]; exact hrl) (by rw [el]; exact hrb) ((hf2 190 _ (by decide) (by decide) (by decide) (by decide) (by decide)).trans hmc) ((hf2 206 _ (by decide) (by decide) (by decide) (by decide) (by decide)).trans hvk) ((hf2 207 _ (by decide) (by decide) (by decide) (by decide) (by decide)).trans hvb)) (fun oq55 Sq55 hp56 q55 => ?_)
                      rcases q55 with ⟨rfl, rfl⟩
                      show wJ _ _ _ _ _ _ _ _ _ _
                      refine wa_goto ⟨_, rfl⟩ ?_
                      refine wa_aload_n (n := 0) rfl ?_
                      refine wb_gfi 158 rfl (wy_pr rfl) wt_158 wf_5_7 (v := kd) ((w_up_at (by decide)).trans ((w_up_at (by decide)).trans ((w_up_at (by decide)).trans ((w_up_at (by decide)).trans (((tr49.2.2.2.1 158 7 (by decide) (by decide) (by decide) (Or.inl (by decide))).trans (l7))))))) (fun r57 => ?_)
                      refine wa_iconst ?_
                      refine wa_icmpne (w_rg0 (by omega) (by omega)) (w_rg0 (by omega) (by omega)) ⟨_, rfl⟩ (fun c58 => ?_) (fun c58 => ?_)
                      · skip
                        refine wa_aload_n (n := 0) rfl ?_
                        refine wa_aload_n (n := 0) rfl ?_
                        refine wb_gfi 158 rfl (wy_pr rfl) wt_158 wf_5_16 (v := vk) ((w_up_at (by decide)).trans (w_up_same _ _ _ _)) (fun r59 => ?_)
                        refine wa_aload_n (n := 0) rfl ?_
                        refine wb_gfl 158 rfl (wy_pr rfl) wt_158 wf_5_17 (v := vb) (w_up_same _ _ _ _) (fun r60 => ?_)
                        refine wa_cv 158 rfl (wy_pr rfl) wt_158 (M2 := mS [217, 218]) rfl at_XL_giveValue ⟨_, rfl⟩ rfl rfl ⟨trivial, trivial, trivial, (Or.inr ⟨wy_pr rfl, mS_no rfl⟩), (Or.inr ⟨wy_pr rfl, mS_no rfl⟩), trivial, trivial⟩ trivial (fun _ _ q => mS_sub (by decide) q) (glx_215 (S := (w_up (w_up (w_up (w_up Sq49 158 16 0) 158 17 0) 158 16 vk) 158 17 vb)) (k := vk) (v := vb) (h := h) (c := c) (p := p) (ba := ba) (w_CL_up (w_CL_up (w_CL_up (w_CL_up (CL_tr hC tr49) (by omega)) (by omega)) (by omega)) (by omega)) (gI_up (gI_up (gI_up (gI_up tr49.2.2.2.2.2.1 (by omega) (by omega) (by omega)) (by omega) (by omega) (by omega)) (by omega) (by omega) (by omega)) (by omega) (by omega) (by omega)) ((w_up_at (by decide)).trans ((w_up_at (by decide)).trans ((w_up_at (by decide)).trans ((w_up_at (by decide)).trans (((tr49.2.2.2.1 158 4 (by decide) (by decide) (by decide) (Or.inl (by decide))).trans (l4))))))) ((w_up_at (by decide)).trans ((w_up_at (by decide)).trans ((w_up_at (by decide)).trans ((w_up_at (by decide)).trans (((tr49.2.2.2.1 158 5 (by decide) (by decide) (by decide) (Or.inl (by decide))).trans (l5))))))) ((w_up_at (by decide)).trans ((w_up_at (by decide)).trans ((w_up_at (by decide)).trans ((w_up_at (by decide)).trans (((tr49.2.2.2.1 158 8 (by decide) (by decide) (by decide) (Or.inl (by decide))).trans (l8))))))) ((w_up_slot (by decide)).trans ((w_up_slot (by decide)).trans ((w_up_slot (by decide)).trans ((w_up_slot (by decide)).trans (((tr49.2.2.2.1 215 4 (by decide) (by decide) (by decide) (Or.inl (by decide))).trans (bc))))))) ((w_up_slot (by decide)).trans ((w_up_slot (by decide)).trans ((w_up_slot (by decide)).trans ((w_up_slot (by decide)).trans (((tr49.2.2.2.1 220 (c - 1) (by decide) (by decide) (by decide) (Or.inl (by decide))).trans (bp))))))) ((((w_up_slot (by decide)).trans ((w_up_slot (by decide)).trans ((w_up_slot (by decide)).trans ((w_up_slot (by decide)).trans (((tr49.2.2.2.1 218 (-1) (by decide) (by decide) (by decide) (Or.inl (by decide))).trans (bl1)))))))).trans (((w_up_slot (by decide)).trans ((w_up_slot (by decide)).trans ((w_up_slot (by decide)).trans ((w_up_slot (by decide)).trans (((tr49.2.2.2.1 217 (-1) (by decide) (by decide) (by decide) (Or.inl (by decide))).trans (rfl)))))))).symm) (by have e : (w_up (w_up (w_up (w_up Sq49 158 16 0) 158 17 0) 158 16 vk) 158 17 vb) 217 (-1) = S 217 (-1) := ((w_up_slot (by decide)).trans ((w_up_slot (by decide)).trans ((w_up_slot (by decide)).trans ((w_up_slot (by decide)).trans (((tr49.2.2.2.1 217 (-1) (by decide) (by decide) (by decide) (Or.inl (by decide))).trans (rfl))))))); rw [e]; exact ⟨bl2, bl3⟩) (by have e : (w_up (w_up (w_up (w_up Sq49 158 16 0) 158 17 0) 158 16 vk) 158 17 vb) 217 (-1) = S 217 (-1) := ((w_up_slot (by decide)).trans ((w_up_slot (by decide)).trans ((w_up_slot (by decide)).trans ((w_up_slot (by decide)).trans (((tr49.2.2.2.1 217 (-1) (by decide) (by decide) (by decide) (Or.inl (by decide))).trans (rfl))))))); omega) ⟨by omega, by omega⟩ ⟨by omega, by omega⟩ ⟨by omega, by omega⟩ ⟨by omega, by omega⟩) (fun oq61 Sq61 hp62 q61 => ?_)
                        rcases q61 with ⟨rfl, hgv61⟩
                        show wJ _ _ _ _ _ _ _ _ _ _
                        refine wa_return rfl ?_
                        refine ⟨rfl, Or.inr ⟨by omega, Sq49, (w_up (w_up (w_up (w_up Sq49 158 16 0) 158 17 0) 158 16 vk) 158 17 vb), tr49, ?_, ?_⟩⟩
                        · exact fun j i hji => (w_up_no (by omega)).trans ((w_up_no (by omega)).trans ((w_up_no (by omega)).trans ((w_up_no (by omega)).trans (rfl))))
                        · first | (rw [if_pos (show kd = 1 by omega), if_pos (show kd = 1 by omega)]; exact hgv61) | (rw [if_neg (show ¬ kd = 1 by omega), if_neg (show ¬ kd = 1 by omega)]; exact hgv61)
                      · skip
                        refine wa_aload_n (n := 0) rfl ?_
                        refine wa_aload_n (n := 0) rfl ?_
                        refine wb_gf5 158 rfl (wy_pr rfl) wt_158 wf_5_5 (v := 216) ((w_up_at (by decide)).trans ((w_up_at (by decide)).trans ((w_up_at (by decide)).trans ((w_up_at (by decide)).trans (((tr49.2.2.2.1 158 5 (by decide) (by decide) (by decide) (Or.inl (by decide))).trans (l5))))))) (fun r63 => ?_)
                        refine wb_gf4 216 rfl (wy_pr rfl) wt_216 wf_7_0 (v := 217) wl_216_0 ?_
                        refine wa_aload_n (n := 0) rfl ?_
                        refine wb_gf5 158 rfl (wy_pr rfl) wt_158 wf_5_5 (v := 216) ((w_up_at (by decide)).trans ((w_up_at (by decide)).trans ((w_up_at (by decide)).trans ((w_up_at (by decide)).trans (((tr49.2.2.2.1 158 5 (by decide) (by decide) (by decide) (Or.inl (by decide))).trans (l5))))))) (fun r64 => ?_)
                        refine wb_gfi 216 rfl (wy_pr rfl) wt_216 wf_7_2 (v := h) ((w_up_slot (by decide)).trans ((w_up_slot (by decide)).trans ((w_up_slot (by decide)).trans ((w_up_slot (by decide)).trans (((tr49.2.2.2.1 216 2 (by decide) (by decide) (by decide) (Or.inl (by decide))).trans (bh))))))) (fun r65 => ?_)
                        refine wa_iconst ?_
                        refine wa_isub ?_
                        refine wb_bald 217 rfl (wy_pr rfl) wt_217 (n := (S 217 (-1))) ((w_up_slot (by decide)).trans ((w_up_slot (by decide)).trans ((w_up_slot (by decide)).trans ((w_up_slot (by decide)).trans (((tr49.2.2.2.1 217 (-1) (by decide) (by decide) (by decide) (Or.inl (by decide))).trans (rfl))))))) (by omega) (by omega) (v := ky) ((w_up_slot (by decide)).trans ((w_up_slot (by decide)).trans ((w_up_slot (by decide)).trans ((w_up_slot (by decide)).trans (((tr49.2.2.2.1 217 (h - 1) (by decide) (by decide) (by decide) (Or.inl (by decide))).trans (hky))))))) (fun r66 => ?_)
                        refine wb_pfi 158 rfl (wy_pr rfl) wt_158 wf_5_16 (n := 16) rfl ⟨(by omega), (by omega)⟩ ?_
                        refine wa_aload_n (n := 0) rfl ?_
                        refine wa_aload_n (n := 0) rfl ?_
                        refine wb_gf5 158 rfl (wy_pr rfl) wt_158 wf_5_5 (v := 216) ((w_up_at (by decide)).trans ((w_up_at (by decide)).trans ((w_up_at (by decide)).trans ((w_up_at (by decide)).trans ((w_up_at (by decide)).trans (((tr49.2.2.2.1 158 5 (by decide) (by decide) (by decide) (Or.inl (by decide))).trans (l5)))))))) (fun r67 => ?_)
                        refine wb_gf4 216 rfl (wy_pr rfl) wt_216 wf_7_1 (v := 218) wl_216_1 ?_
                        refine wa_aload_n (n := 0) rfl ?_
                        refine wb_gf5 158 rfl (wy_pr rfl) wt_158 wf_5_5 (v := 216) ((w_up_at (by decide)).trans ((w_up_at (by decide)).trans ((w_up_at (by decide)).trans ((w_up_at (by decide)).trans ((w_up_at (by decide)).trans (((tr49.2.2.2.1 158 5 (by decide) (by decide) (by decide) (Or.inl (by decide))).trans (l5)))))))) (fun r68 => ?_)
                        refine wb_gfi 216 rfl (wy_pr rfl) wt_216 wf_7_2 (v := h) ((w_up_slot (by decide)).trans ((w_up_slot (by decide)).trans ((w_up_slot (by decide)).trans ((w_up_slot (by decide)).trans ((w_up_slot (by decide)).trans (((tr49.2.2.2.1 216 2 (by decide) (by decide) (by decide) (Or.inl (by decide))).trans (bh)))))))) (fun r69 => ?_)
                        refine wa_iconst ?_
                        refine wa_isub ?_
                        refine wb_lald 218 rfl (wy_pr rfl) wt_218 (n := (S 217 (-1))) ((w_up_slot (by decide)).trans ((w_up_slot (by decide)).trans ((w_up_slot (by decide)).trans ((w_up_slot (by decide)).trans ((w_up_slot (by decide)).trans (((tr49.2.2.2.1 218 (-1) (by decide) (by decide) (by decide) (Or.inl (by decide))).trans (bl1)))))))) (by omega) (by omega) (v := vy) ((w_up_slot (by decide)).trans ((w_up_slot (by decide)).trans ((w_up_slot (by decide)).trans ((w_up_slot (by decide)).trans ((w_up_slot (by decide)).trans (((tr49.2.2.2.1 218 (h - 1) (by decide) (by decide) (by decide) (Or.inl (by decide))).trans (hvy)))))))) (fun r70 => ?_)
                        refine wb_pfl 158 rfl (wy_pr rfl) wt_158 wf_5_17 (n := 17) rfl ⟨(by omega), (by omega)⟩ ?_
                        refine wa_fall ⟨_, rfl⟩ ?_
                        refine wa_aload_n (n := 0) rfl ?_
                        refine wa_aload_n (n := 0) rfl ?_
                        refine wb_gfi 158 rfl (wy_pr rfl) wt_158 wf_5_16 (v := ky) ((w_up_at (by decide)).trans (w_up_same _ _ _ _)) (fun r71 => ?_)
                        refine wa_aload_n (n := 0) rfl ?_
                        refine wb_gfl 158 rfl (wy_pr rfl) wt_158 wf_5_17 (v := vy) (w_up_same _ _ _ _) (fun r72 => ?_)
                        refine wa_cv 158 rfl (wy_pr rfl) wt_158 (M2 := mS [217, 218]) rfl at_XL_giveValue ⟨_, rfl⟩ rfl rfl ⟨trivial, trivial, trivial, (Or.inr ⟨wy_pr rfl, mS_no rfl⟩), (Or.inr ⟨wy_pr rfl, mS_no rfl⟩), trivial, trivial⟩ trivial (fun _ _ q => mS_sub (by decide) q) (glx_215 (S := (w_up (w_up (w_up (w_up (w_up (w_up Sq49 158 16 0) 158 17 0) 158 16 vk) 158 17 vb) 158 16 ky) 158 17 vy)) (k := ky) (v := vy) (h := h) (c := c) (p := p) (ba := ba) (w_CL_up (w_CL_up (w_CL_up (w_CL_up (w_CL_up (w_CL_up (CL_tr hC tr49) (by omega)) (by omega)) (by omega)) (by omega)) (by omega)) (by omega)) (gI_up (gI_up (gI_up (gI_up (gI_up (gI_up tr49.2.2.2.2.2.1 (by omega) (by omega) (by omega)) (by omega) (by omega) (by omega)) (by omega) (by omega) (by omega)) (by omega) (by omega) (by omega)) (by omega) (by omega) (by omega)) (by omega) (by omega) (by omega)) ((w_up_at (by decide)).trans ((w_up_at (by decide)).trans ((w_up_at (by decide)).trans ((w_up_at (by decide)).trans ((w_up_at (by decide)).trans ((w_up_at (by decide)).trans (((tr49.2.2.2.1 158 4 (by decide) (by decide) (by decide) (Or.inl (by decide))).trans (l4))))))))) ((w_up_at (by decide)).trans ((w_up_at (by decide)).trans ((w_up_at (by decide)).trans ((w_up_at (by decide)).trans ((w_up_at (by decide)).trans ((w_up_at (by decide)).trans (((tr49.2.2.2.1 158 5 (by decide) (by decide) (by decide) (Or.inl (by decide))).trans (l5))))))))) ((w_up_at (by decide)).trans ((w_up_at (by decide)).trans ((w_up_at (by decide)).trans ((w_up_at (by decide)).trans ((w_up_at (by decide)).trans ((w_up_at (by decide)).trans (((tr49.2.2.2.1 158 8 (by decide) (by decide) (by decide) (Or.inl (by decide))).trans (l8))))))))) ((w_up_slot (by decide)).trans ((w_up_slot (by decide)).trans ((w_up_slot (by decide)).trans ((w_up_slot (by decide)).trans ((w_up_slot (by decide)).trans ((w_up_slot (by decide)).trans (((tr49.2.2.2.1 215 4 (by decide) (by decide) (by decide) (Or.inl (by decide))).trans (bc))))))))) ((w_up_slot (by decide)).trans ((w_up_slot (by decide)).trans ((w_up_slot (by decide)).trans ((w_up_slot (by decide)).trans ((w_up_slot (by decide)).trans ((w_up_slot (by decide)).trans (((tr49.2.2.2.1 220 (c - 1) (by decide) (by decide) (by decide) (Or.inl (by decide))).trans (bp))))))))) ((((w_up_slot (by decide)).trans ((w_up_slot (by decide)).trans ((w_up_slot (by decide)).trans ((w_up_slot (by decide)).trans ((w_up_slot (by decide)).trans ((w_up_slot (by decide)).trans (((tr49.2.2.2.1 218 (-1) (by decide) (by decide) (by decide) (Or.inl (by decide))).trans (bl1)))))))))).trans (((w_up_slot (by decide)).trans ((w_up_slot (by decide)).trans ((w_up_slot (by decide)).trans ((w_up_slot (by decide)).trans ((w_up_slot (by decide)).trans ((w_up_slot (by decide)).trans (((tr49.2.2.2.1 217 (-1) (by decide) (by decide) (by decide) (Or.inl (by decide))).trans (rfl)))))))))).symm) (by have e : (w_up (w_up (w_up (w_up (w_up (w_up Sq49 158 16 0) 158 17 0) 158 16 vk) 158 17 vb) 158 16 ky) 158 17 vy) 217 (-1) = S 217 (-1) := ((w_up_slot (by decide)).trans ((w_up_slot (by decide)).trans ((w_up_slot (by decide)).trans ((w_up_slot (by decide)).trans ((w_up_slot (by decide)).trans ((w_up_slot (by decide)).trans (((tr49.2.2.2.1 217 (-1) (by decide) (by decide) (by decide) (Or.inl (by decide))).trans (rfl))))))))); rw [e]; exact ⟨bl2, bl3⟩) (by have e : (w_up (w_up (w_up (w_up (w_up (w_up Sq49 158 16 0) 158 17 0) 158 16 vk) 158 17 vb) 158 16 ky) 158 17 vy) 217 (-1) = S 217 (-1) := ((w_up_slot (by decide)).trans ((w_up_slot (by decide)).trans ((w_up_slot (by decide)).trans ((w_up_slot (by decide)).trans ((w_up_slot (by decide)).trans ((w_up_slot (by decide)).trans (((tr49.2.2.2.1 217 (-1) (by decide) (by decide) (by decide) (Or.inl (by decide))).trans (rfl))))))))); omega) ⟨by omega, by omega⟩ ⟨by omega, by omega⟩ ⟨by omega, by omega⟩ ⟨by omega, by omega⟩) (fun oq73 Sq73 hp74 q73 => ?_)
                        rcases q73 with ⟨rfl, hgv73⟩
                        show wJ _ _ _ _ _ _ _ _ _ _
                        refine wa_return rfl ?_
                        refine ⟨rfl, Or.inr ⟨by omega, Sq49, (w_up (w_up (w_up (w_up (w_up (w_up Sq49 158 16 0) 158 17 0) 158 16 vk) 158 17 vb) 158 16 ky) 158 17 vy), tr49, ?_, ?_⟩⟩
                        · exact fun j i hji => (w_up_no (by omega)).trans ((w_up_no (by omega)).trans ((w_up_no (by omega)).trans ((w_up_no (by omega)).trans ((w_up_no (by omega)).trans ((w_up_no (by omega)).trans (rfl))))))
                        · first | (rw [if_pos (show kd = 1 by omega), if_pos (show kd = 1 by omega)]; exact hgv73) | (rw [if_neg (show ¬ kd = 1 by omega), if_neg (show ¬ kd = 1 by omega)]; exact hgv73)
                  · skip
                    exact absurd c51 (by omega)
                · skip
                  exact absurd c47 (by omega)
              · skip
                exact absurd c46 (by omega)
          · skip
            exact absurd c42 (by omega)
        · skip
          exact absurd c41 (by omega)
  · skip
    exact absurd c3 (by omega)
set_option maxHeartbeats 4000000 in
theorem cms1_162_215 {c p h kd ba m en tn ky vy fl fi gb ty k1 v1 : Int} (hP : xP 215 c p h S) (l4 : S 158 4 = 215) (l5 : S 158 5 = 216) (l7 : S 158 7 = kd) (l8 : S 158 8 = ba) (l12 : S 158 12 = en) (hen : 0 ≤ en ∧ en ≤ 1000) (hba : 0 ≤ ba ∧ ba < h) (h72 : S 72 1 = 162) (hm : 0 ≤ m ∧ m < 400) (hso : S 187 m = 1) (ht15 : S 72 15 = tn) (ht0 : 0 ≤ tn ∧ tn ≤ S 152 (-1) ∧ tn ≤ 100000) (ht9 : 16 ≤ S 152 (-1) ∧ S 152 (-1) ≤ 131072 ∨ (16 ≤ S 152 (-1) ∧ S 152 (-1) ≤ 262143 ∧ tn + 2 ≤ S 152 (-1))) (hky : S 217 (h - 1) = ky) (hvy : S 218 (h - 1) = vy) (hkr : -128 ≤ ky ∧ ky ≤ 127) (hvr : -9223372036854775808 ≤ vy ∧ vy ≤ 9223372036854775807) (hmf : S 201 m = fl) (hfl : 0 ≤ fl ∧ fl < 400) (hstt : S 188 fl = 1) (hfi : S 201 fl = fi) (l10 : S 158 10 = gb) (hmt : S 189 m = ty) (hmc : S 190 m = 1) (hrl : S 207 (-1) = S 206 (-1)) (hrb : 0 ≤ fi ∧ fi < S 206 (-1) ∧ S 206 (-1) ≤ 8388608) (hb1 : ba + 1 < h) (hk1 : S 217 (ba + 1) = k1) (hv1 : S 218 (ba + 1) = v1) : wJ (pe_GA xs) wY0 (mS [217, 218, 152]) (d + 6) t_XL_callMember ((pe_at t_XL_callMember.bl 0).getD (0, [])).2 [(0, (2, 158)), (1, (0, m))] [] S (fun o Z => o = .inl none ∧ ((100000 < tn + 2 ∧ w_up S 215 16 99 = Z) ∨ (¬ (100000 < tn + 2) ∧ cmE 215 h c p (h - ba) kd ky vy 0 0 m en (fun A B => gvR (w_up (w_up A 206 fi k1) 207 fi v1) B) S Z))) := by
  obtain ⟨⟨hC, hI⟩, ⟨bc, bc0, bc1⟩, ⟨bp, bp0, bp1⟩, ⟨bh, bh0, bh1, bh2⟩, bl1, bl2, bl3⟩ := hP
  replace bp : S 220 (c - 1) = p := bp
  replace bh : S 216 2 = h := bh
  replace bh2 : h ≤ S 217 (-1) := bh2
  replace bl1 : S 218 (-1) = S 217 (-1) := bl1
  replace bl2 : 64 ≤ S 217 (-1) := bl2
  replace bl3 : S 217 (-1) ≤ 4095 := bl3
  refine wa_aload_n (n := 0) rfl ?_
  refine wb_gf4 158 rfl (wy_pr rfl) wt_158 wf_5_0 (v := 72) wl_158_0 ?_
  refine wb_gf5 72 rfl (wy_pr rfl) wt_72 wf_2_1 (v := 162) (h72) (fun r1 => ?_)
  refine wa_astore_n (n := 2) rfl ?_
  refine wa_aload_n (n := 2) rfl ?_
  refine wb_gf4 162 rfl (wy_pr rfl) wt_162 wf_3_3 (v := 185) wl_162_3 ?_
  refine wa_iconst ?_
  refine wb_aald5 185 1 rfl rfl (wy_pr rfl) wt_185 (by rw [show _ = _ from ((cl_185 hC))]; omega) wl_185_1 ?_
  refine wa_iload_n (n := 1) rfl ?_
  refine wb_iald 187 rfl (wy_pr rfl) wt_187 (n := 400) ((cl_187 hC)) (by omega) (by omega) (v := 1) (hso) (fun r2 => ?_)
  refine wa_iconst ?_
  refine wa_icmpne (w_rg0 (by omega) (by omega)) (w_rg0 (by omega) (by omega)) ⟨_, rfl⟩ (fun c3 => ?_) (fun c3 => ?_)
  · skip
    refine wa_iconst ?_
    refine wa_fall ⟨_, rfl⟩ ?_
    refine wa_istore_n (n := 3) rfl ?_
    refine wa_iload_n (n := 3) rfl ?_
    refine wa_ifne (w_rg0 (by omega) (by omega)) ⟨_, rfl⟩ (fun c4 => ?_) (fun c4 => ?_)
    · skip
      exact absurd c4 (by omega)
    · skip
      refine wa_aload_n (n := 2) rfl ?_
      refine wb_gf4 162 rfl (wy_pr rfl) wt_162 wf_3_3 (v := 185) wl_162_3 ?_
      refine wa_iconst ?_
      refine wb_aald5 185 3 rfl rfl (wy_pr rfl) wt_185 (by rw [show _ = _ from ((cl_185 hC))]; omega) wl_185_3 ?_
      refine wa_iload_n (n := 1) rfl ?_
      refine wb_iald 189 rfl (wy_pr rfl) wt_189 (n := 400) ((cl_189 hC)) (by omega) (by omega) (v := ty) (hmt) (fun r5 => ?_)
      refine wa_bipush (w_rg2 (by omega) (by omega)) ?_
      refine wa_icmpne (w_rg0 (by omega) (by omega)) (w_rg0 (by omega) (by omega)) ⟨_, rfl⟩ (fun c6 => ?_) (fun c6 => ?_)
      · skip
        refine wa_iconst ?_
        refine wa_fall ⟨_, rfl⟩ ?_
        refine wa_istore (n := 4) rfl ?_
        refine wa_iload_n (n := 3) rfl ?_
        refine wa_ifeq (w_rg0 (by omega) (by omega)) ⟨_, rfl⟩ (fun c7 => ?_) (fun c7 => ?_)
        · skip
          refine wa_iconst ?_
          refine wa_fall ⟨_, rfl⟩ ?_
          refine wa_istore (n := 5) rfl ?_
          refine wa_aload_n (n := 0) rfl ?_
          refine wb_gf4 158 rfl (wy_pr rfl) wt_158 wf_5_0 (v := 72) wl_158_0 ?_
          refine wb_gfi 72 rfl (wy_pr rfl) wt_72 wf_2_15 (v := tn) (ht15) (fun r8 => ?_)
          refine wa_iconst ?_
          refine wa_iadd ?_
          refine wb_ki (n := 100000) rfl ?_
          refine wa_icmpgt (w_rg0 (by omega) (by omega)) (w_rg0 (by omega) (by omega)) ⟨_, rfl⟩ (fun c9 => ?_) (fun c9 => ?_)
          · skip
            refine wa_aload_n (n := 0) rfl ?_
            refine wb_gf5 158 rfl (wy_pr rfl) wt_158 wf_5_4 (v := 215) (l4) (fun r10 => ?_)
            refine wa_bipush (w_rg2 (by omega) (by omega)) ?_
            refine wb_pfi 215 rfl (wy_pr rfl) wt_215 wf_8_16 (n := 16) rfl ⟨(by omega), (by omega)⟩ ?_
            refine wa_return rfl ?_
            exact ⟨rfl, Or.inl ⟨by omega, rfl⟩⟩
          · skip
            refine wa_iload_n (n := 3) rfl ?_
            refine wa_ifeq (w_rg0 (by omega) (by omega)) ⟨_, rfl⟩ (fun c11 => ?_) (fun c11 => ?_)
            · skip
              refine wa_iload (n := 4) rfl ?_
              refine wa_ifeq (w_rg0 (by omega) (by omega)) ⟨_, rfl⟩ (fun c12 => ?_) (fun c12 => ?_)
              · skip
                refine wa_aload_n (n := 0) rfl ?_
                refine wb_gf4 158 rfl (wy_pr rfl) wt_158 wf_5_0 (v := 72) wl_158_0 ?_
                refine wa_iload_n (n := 1) rfl ?_
                refine wa_aload_n (n := 0) rfl ?_
                refine wb_gfi 158 rfl (wy_pr rfl) wt_158 wf_5_12 (v := en) (l12) (fun r13 => ?_)
                refine wa_cv 72 rfl (wy_pr rfl) wt_72 (M2 := mS [152]) rfl at_XH_addTrace ⟨_, rfl⟩ rfl rfl ⟨trivial, trivial, trivial, (Or.inr ⟨wy_pr rfl, mS_no rfl⟩), (Or.inr ⟨wy_pr rfl, mS_no rfl⟩), trivial, trivial⟩ trivial (fun _ _ q => mS_sub (by decide) q) (tra (S := S) (m := m) (k := en) hI ⟨by omega, by omega⟩ ⟨by omega, by omega⟩ (by rw [ht15]; exact ht0) (by rw [ht15]; exact ht9)) (fun oq14 Sq14 hp15 q14 => ?_)
                rcases q14 with ⟨rfl, tr14⟩
                show wJ _ _ _ _ _ _ _ _ _ _
                refine wa_aload_n (n := 0) rfl ?_
                refine wa_iconst ?_
                refine wb_pfi 158 rfl (wy_pr rfl) wt_158 wf_5_16 (n := 16) rfl ⟨(by omega), (by omega)⟩ ?_
                refine wa_aload_n (n := 0) rfl ?_
                refine wb_lconst (m := 0) rfl ?_
                refine wb_pfl 158 rfl (wy_pr rfl) wt_158 wf_5_17 (n := 17) rfl ⟨(by omega), (by omega)⟩ ?_
                refine wa_iload_n (n := 3) rfl ?_
                refine wa_ifeq (w_rg0 (by omega) (by omega)) ⟨_, rfl⟩ (fun c16 => ?_) (fun c16 => ?_)
                · skip
                  refine wa_aload_n (n := 2) rfl ?_
                  refine wb_gf4 162 rfl (wy_pr rfl) wt_162 wf_3_3 (v := 185) wl_162_3 ?_
                  refine wa_bipush (w_rg2 (by omega) (by omega)) ?_
                  refine wb_aald5 185 15 rfl rfl (wy_pr rfl) wt_185 (by rw [show _ = _ from ((w_up_slot (by decide)).trans ((w_up_slot (by decide)).trans (((tr14.2.2.2.1 185 (-1) (by decide) (by decide) (by decide) (Or.inl (by decide))).trans ((cl_185 hC))))))]; omega) wl_185_15 ?_
                  refine wa_iload_n (n := 1) rfl ?_
                  refine wb_iald 201 rfl (wy_pr rfl) wt_201 (n := 400) ((w_up_slot (by decide)).trans ((w_up_slot (by decide)).trans (((tr14.2.2.2.1 201 (-1) (by decide) (by decide) (by decide) (Or.inl (by decide))).trans ((cl_201 hC)))))) (by omega) (by omega) (v := fl) ((w_up_slot (by decide)).trans ((w_up_slot (by decide)).trans (((tr14.2.2.2.1 201 m (by decide) (by decide) (by decide) (Or.inl (by decide))).trans (hmf))))) (fun r17 => ?_)
                  refine wa_iconst ?_
                  refine wa_icmpeq (w_rg0 (by omega) (by omega)) (w_rg0 (by omega) (by omega)) ⟨_, rfl⟩ (fun c18 => ?_) (fun c18 => ?_)
                  · skip
                    exact absurd c18 (by omega)
                  · skip
                    refine wa_aload_n (n := 0) rfl ?_
                    refine wa_iload_n (n := 1) rfl ?_
                    refine wa_aload_n (n := 2) rfl ?_
                    refine wb_gf4 162 rfl (wy_pr rfl) wt_162 wf_3_3 (v := 185) wl_162_3 ?_
                    refine wa_bipush (w_rg2 (by omega) (by omega)) ?_
                    refine wb_aald5 185 15 rfl rfl (wy_pr rfl) wt_185 (by rw [show _ = _ from ((w_up_slot (by decide)).trans ((w_up_slot (by decide)).trans (((tr14.2.2.2.1 185 (-1) (by decide) (by decide) (by decide) (Or.inl (by decide))).trans ((cl_185 hC))))))]; omega) wl_185_15 ?_
                    refine wa_iload_n (n := 1) rfl ?_
                    refine wb_iald 201 rfl (wy_pr rfl) wt_201 (n := 400) ((w_up_slot (by decide)).trans ((w_up_slot (by decide)).trans (((tr14.2.2.2.1 201 (-1) (by decide) (by decide) (by decide) (Or.inl (by decide))).trans ((cl_201 hC)))))) (by omega) (by omega) (v := fl) ((w_up_slot (by decide)).trans ((w_up_slot (by decide)).trans (((tr14.2.2.2.1 201 m (by decide) (by decide) (by decide) (Or.inl (by decide))).trans (hmf))))) (fun r19 => ?_)
                    have hf2 : ∀ (j : Nat) (i : Int), j < 4000000 → j ≠ wG → j ≠ 152 → j ≠ 72 → j ≠ 158 → (w_up (w_up Sq14 158 16 0) 158 17 0) j i = S j i := fun j i a b c d e => (w_up_no (fun z => e z.1)).trans ((w_up_no (fun z => e z.1)).trans (tr14.2.2.2.1 j i a b c (Or.inl d)))
                    have el : (w_up (w_up Sq14 158 16 0) 158 17 0) 206 (-1) = S 206 (-1) := (hf2 206 _ (by first | decide | omega) (by first | decide | omega) (by first | decide | omega) (by first | decide | omega) (by first | decide | omega))
                    have el2 : (w_up (w_up Sq14 158 16 0) 158 17 0) 207 (-1) = S 207 (-1) := (hf2 207 _ (by first | decide | omega) (by first | decide | omega) (by first | decide | omega) (by first | decide | omega) (by first | decide | omega))
                    have el8 : (w_up (w_up Sq14 158 16 0) 158 17 0) 217 (-1) = S 217 (-1) := (hf2 217 _ (by first | decide | omega) (by first | decide | omega) (by first | decide | omega) (by first | decide | omega) (by first | decide | omega))
                    have el9 : (w_up (w_up Sq14 158 16 0) 158 17 0) 218 (-1) = S 218 (-1) := (hf2 218 _ (by first | decide | omega) (by first | decide | omega) (by first | decide | omega) (by first | decide | omega) (by first | decide | omega))
                    refine wa_cv 158 rfl (wy_pr rfl) wt_158 (M2 := fun _ => False) rfl at_XL_useField ⟨_, rfl⟩ rfl rfl ⟨trivial, trivial, trivial, (Or.inr ⟨wy_pr rfl, fun q => q⟩), (Or.inr ⟨wy_pr rfl, fun q => q⟩), trivial, trivial⟩ trivial (fun _ _ q => False.elim q) (uss1_162_215 (S := (w_up (w_up Sq14 158 16 0) 158 17 0)) (m := m) (f := fl) (w_CL_up (w_CL_up (CL_tr hC tr14) (by omega)) (by omega)) ((w_up_slot (by decide)).trans ((w_up_slot (by decide)).trans (((tr14.2.2.2.1 72 1 (by decide) (by decide) (by decide) (Or.inr (by decide))).trans (h72))))) ((w_up_at (by decide)).trans ((w_up_at (by decide)).trans (((tr14.2.2.2.1 158 5 (by decide) (by decide) (by decide) (Or.inl (by decide))).trans (l5))))) ((w_up_at (by decide)).trans ((w_up_at (by decide)).trans (((tr14.2.2.2.1 158 8 (by decide) (by decide) (by decide) (Or.inl (by decide))).trans (l8))))) (((w_up_at (by decide)).trans ((w_up_at (by decide)).trans ((tr14.2.2.2.1 158 10 (by decide) (by decide) (by decide) (Or.inl (by decide)))))).trans l10) hm hfl ((hf2 188 _ (by decide) (by decide) (by decide) (by decide) (by decide)).trans hstt) ((hf2 201 _ (by decide) (by decide) (by decide) (by decide) (by decide)).trans hfi) (by rw [el, el2]; exact hrl) (by rw [el]; exact hrb) ((hf2 190 _ (by decide) (by decide) (by decide) (by decide) (by decide)).trans hmc) (by rw [el8, el9]; exact bl1) (by rw [el8]; exact ⟨by omega, by omega, bl3⟩) ((hf2 217 _ (by decide) (by decide) (by decide) (by decide) (by decide)).trans hk1) ((hf2 218 _ (by decide) (by decide) (by decide) (by decide) (by decide)).trans hv1)) (fun oq20 Sq20 hp21 q20 => ?_)
                    rcases q20 with ⟨rfl, rfl⟩
                    show wJ _ _ _ _ _ _ _ _ _ _
                    refine wa_goto ⟨_, rfl⟩ ?_
                    refine wa_aload_n (n := 0) rfl ?_
                    refine wb_gfi 158 rfl (wy_pr rfl) wt_158 wf_5_7 (v := kd) ((w_up_slot (by decide)).trans ((w_up_slot (by decide)).trans ((w_up_at (by decide)).trans ((w_up_at (by decide)).trans (((tr14.2.2.2.1 158 7 (by decide) (by decide) (by decide) (Or.inl (by decide))).trans (l7))))))) (fun r22 => ?_)
                    refine wa_iconst ?_
                    refine wa_icmpne (w_rg0 (by omega) (by omega)) (w_rg0 (by omega) (by omega)) ⟨_, rfl⟩ (fun c23 => ?_) (fun c23 => ?_)
                    · skip
                      refine wa_aload_n (n := 0) rfl ?_
                      refine wa_aload_n (n := 0) rfl ?_
                      refine wb_gfi 158 rfl (wy_pr rfl) wt_158 wf_5_16 (v := 0) ((w_up_slot (by decide)).trans ((w_up_slot (by decide)).trans ((w_up_at (by decide)).trans (w_up_same _ _ _ _)))) (fun r24 => ?_)
                      refine wa_aload_n (n := 0) rfl ?_
                      refine wb_gfl 158 rfl (wy_pr rfl) wt_158 wf_5_17 (v := 0) ((w_up_slot (by decide)).trans ((w_up_slot (by decide)).trans (w_up_same _ _ _ _))) (fun r25 => ?_)
                      refine wa_cv 158 rfl (wy_pr rfl) wt_158 (M2 := mS [217, 218]) rfl at_XL_giveValue ⟨_, rfl⟩ rfl rfl ⟨trivial, trivial, trivial, (Or.inr ⟨wy_pr rfl, mS_no rfl⟩), (Or.inr ⟨wy_pr rfl, mS_no rfl⟩), trivial, trivial⟩ trivial (fun _ _ q => mS_sub (by decide) q) (glx_215 (S := (w_up (w_up (w_up (w_up Sq14 158 16 0) 158 17 0) 206 fi k1) 207 fi v1)) (k := 0) (v := 0) (h := h) (c := c) (p := p) (ba := ba) (w_CL_up (w_CL_up (w_CL_up (w_CL_up (CL_tr hC tr14) (by omega)) (by omega)) (by omega)) (by omega)) (gI_up (gI_up (gI_up (gI_up tr14.2.2.2.2.2.1 (by omega) (by omega) (by omega)) (by omega) (by omega) (by omega)) (by omega) (by omega) (by omega)) (by omega) (by omega) (by omega)) ((w_up_slot (by decide)).trans ((w_up_slot (by decide)).trans ((w_up_at (by decide)).trans ((w_up_at (by decide)).trans (((tr14.2.2.2.1 158 4 (by decide) (by decide) (by decide) (Or.inl (by decide))).trans (l4))))))) ((w_up_slot (by decide)).trans ((w_up_slot (by decide)).trans ((w_up_at (by decide)).trans ((w_up_at (by decide)).trans (((tr14.2.2.2.1 158 5 (by decide) (by decide) (by decide) (Or.inl (by decide))).trans (l5))))))) ((w_up_slot (by decide)).trans ((w_up_slot (by decide)).trans ((w_up_at (by decide)).trans ((w_up_at (by decide)).trans (((tr14.2.2.2.1 158 8 (by decide) (by decide) (by decide) (Or.inl (by decide))).trans (l8))))))) ((w_up_slot (by decide)).trans ((w_up_slot (by decide)).trans ((w_up_slot (by decide)).trans ((w_up_slot (by decide)).trans (((tr14.2.2.2.1 215 4 (by decide) (by decide) (by decide) (Or.inl (by decide))).trans (bc))))))) ((w_up_slot (by decide)).trans ((w_up_slot (by decide)).trans ((w_up_slot (by decide)).trans ((w_up_slot (by decide)).trans (((tr14.2.2.2.1 220 (c - 1) (by decide) (by decide) (by decide) (Or.inl (by decide))).trans (bp))))))) ((((w_up_slot (by decide)).trans ((w_up_slot (by decide)).trans ((w_up_slot (by decide)).trans ((w_up_slot (by decide)).trans (((tr14.2.2.2.1 218 (-1) (by decide) (by decide) (by decide) (Or.inl (by decide))).trans (bl1)))))))).trans (((w_up_slot (by decide)).trans ((w_up_slot (by decide)).trans ((w_up_slot (by decide)).trans ((w_up_slot (by decide)).trans (((tr14.2.2.2.1 217 (-1) (by decide) (by decide) (by decide) (Or.inl (by decide))).trans (rfl)))))))).symm) (by have e : (w_up (w_up (w_up (w_up Sq14 158 16 0) 158 17 0) 206 fi k1) 207 fi v1) 217 (-1) = S 217 (-1) := ((w_up_slot (by decide)).trans ((w_up_slot (by decide)).trans ((w_up_slot (by decide)).trans ((w_up_slot (by decide)).trans (((tr14.2.2.2.1 217 (-1) (by decide) (by decide) (by decide) (Or.inl (by decide))).trans (rfl))))))); rw [e]; exact ⟨bl2, bl3⟩) (by have e : (w_up (w_up (w_up (w_up Sq14 158 16 0) 158 17 0) 206 fi k1) 207 fi v1) 217 (-1) = S 217 (-1) := ((w_up_slot (by decide)).trans ((w_up_slot (by decide)).trans ((w_up_slot (by decide)).trans ((w_up_slot (by decide)).trans (((tr14.2.2.2.1 217 (-1) (by decide) (by decide) (by decide) (Or.inl (by decide))).trans (rfl))))))); omega) ⟨by omega, by omega⟩ ⟨by omega, by omega⟩ ⟨by omega, by omega⟩ ⟨by omega, by omega⟩) (fun oq26 Sq26 hp27 q26 => ?_)
                      rcases q26 with ⟨rfl, hgv26⟩
                      show wJ _ _ _ _ _ _ _ _ _ _
                      refine wa_return rfl ?_
                      refine ⟨rfl, Or.inr ⟨by omega, Sq14, (w_up (w_up (w_up (w_up Sq14 158 16 0) 158 17 0) 206 fi k1) 207 fi v1), tr14, ?_, ?_⟩⟩
                      · exact fun j i hji => w_up_cg2 (w_up_cg2 ((w_up_no (by omega)).trans (w_up_no (by omega))))
                      · first | (rw [if_pos (show kd = 1 by omega), if_pos (show kd = 1 by omega)]; exact hgv26) | (rw [if_neg (show ¬ kd = 1 by omega), if_neg (show ¬ kd = 1 by omega)]; exact hgv26)
                    · skip
                      refine wa_aload_n (n := 0) rfl ?_
                      refine wa_aload_n (n := 0) rfl ?_
                      refine wb_gf5 158 rfl (wy_pr rfl) wt_158 wf_5_5 (v := 216) ((w_up_slot (by decide)).trans ((w_up_slot (by decide)).trans ((w_up_at (by decide)).trans ((w_up_at (by decide)).trans (((tr14.2.2.2.1 158 5 (by decide) (by decide) (by decide) (Or.inl (by decide))).trans (l5))))))) (fun r28 => ?_)
                      refine wb_gf4 216 rfl (wy_pr rfl) wt_216 wf_7_0 (v := 217) wl_216_0 ?_
                      refine wa_aload_n (n := 0) rfl ?_
                      refine wb_gf5 158 rfl (wy_pr rfl) wt_158 wf_5_5 (v := 216) ((w_up_slot (by decide)).trans ((w_up_slot (by decide)).trans ((w_up_at (by decide)).trans ((w_up_at (by decide)).trans (((tr14.2.2.2.1 158 5 (by decide) (by decide) (by decide) (Or.inl (by decide))).trans (l5))))))) (fun r29 => ?_)
                      refine wb_gfi 216 rfl (wy_pr rfl) wt_216 wf_7_2 (v := h) ((w_up_slot (by decide)).trans ((w_up_slot (by decide)).trans ((w_up_slot (by decide)).trans ((w_up_slot (by decide)).trans (((tr14.2.2.2.1 216 2 (by decide) (by decide) (by decide) (Or.inl (by decide))).trans (bh))))))) (fun r30 => ?_)
                      refine wa_iconst ?_
                      refine wa_isub ?_
                      refine wb_bald 217 rfl (wy_pr rfl) wt_217 (n := (S 217 (-1))) ((w_up_slot (by decide)).trans ((w_up_slot (by decide)).trans ((w_up_slot (by decide)).trans ((w_up_slot (by decide)).trans (((tr14.2.2.2.1 217 (-1) (by decide) (by decide) (by decide) (Or.inl (by decide))).trans (rfl))))))) (by omega) (by omega) (v := ky) ((w_up_slot (by decide)).trans ((w_up_slot (by decide)).trans ((w_up_slot (by decide)).trans ((w_up_slot (by decide)).trans (((tr14.2.2.2.1 217 (h - 1) (by decide) (by decide) (by decide) (Or.inl (by decide))).trans (hky))))))) (fun r31 => ?_)
                      refine wb_pfi 158 rfl (wy_pr rfl) wt_158 wf_5_16 (n := 16) rfl ⟨(by omega), (by omega)⟩ ?_
                      refine wa_aload_n (n := 0) rfl ?_
                      refine wa_aload_n (n := 0) rfl ?_
                      refine wb_gf5 158 rfl (wy_pr rfl) wt_158 wf_5_5 (v := 216) ((w_up_at (by decide)).trans ((w_up_slot (by decide)).trans ((w_up_slot (by decide)).trans ((w_up_at (by decide)).trans ((w_up_at (by decide)).trans (((tr14.2.2.2.1 158 5 (by decide) (by decide) (by decide) (Or.inl (by decide))).trans (l5)))))))) (fun r32 => ?_)
                      refine wb_gf4 216 rfl (wy_pr rfl) wt_216 wf_7_1 (v := 218) wl_216_1 ?_
                      refine wa_aload_n (n := 0) rfl ?_
                      refine wb_gf5 158 rfl (wy_pr rfl) wt_158 wf_5_5 (v := 216) ((w_up_at (by decide)).trans ((w_up_slot (by decide)).trans ((w_up_slot (by decide)).trans ((w_up_at (by decide)).trans ((w_up_at (by decide)).trans (((tr14.2.2.2.1 158 5 (by decide) (by decide) (by decide) (Or.inl (by decide))).trans (l5)))))))) (fun r33 => ?_)
                      refine wb_gfi 216 rfl (wy_pr rfl) wt_216 wf_7_2 (v := h) ((w_up_slot (by decide)).trans ((w_up_slot (by decide)).trans ((w_up_slot (by decide)).trans ((w_up_slot (by decide)).trans ((w_up_slot (by decide)).trans (((tr14.2.2.2.1 216 2 (by decide) (by decide) (by decide) (Or.inl (by decide))).trans (bh)))))))) (fun r34 => ?_)
                      refine wa_iconst ?_
                      refine wa_isub ?_
                      refine wb_lald 218 rfl (wy_pr rfl) wt_218 (n := (S 217 (-1))) ((w_up_slot (by decide)).trans ((w_up_slot (by decide)).trans ((w_up_slot (by decide)).trans ((w_up_slot (by decide)).trans ((w_up_slot (by decide)).trans (((tr14.2.2.2.1 218 (-1) (by decide) (by decide) (by decide) (Or.inl (by decide))).trans (bl1)))))))) (by omega) (by omega) (v := vy) ((w_up_slot (by decide)).trans ((w_up_slot (by decide)).trans ((w_up_slot (by decide)).trans ((w_up_slot (by decide)).trans ((w_up_slot (by decide)).trans (((tr14.2.2.2.1 218 (h - 1) (by decide) (by decide) (by decide) (Or.inl (by decide))).trans (hvy)))))))) (fun r35 => ?_)
                      refine wb_pfl 158 rfl (wy_pr rfl) wt_158 wf_5_17 (n := 17) rfl ⟨(by omega), (by omega)⟩ ?_
                      refine wa_fall ⟨_, rfl⟩ ?_
                      refine wa_aload_n (n := 0) rfl ?_
                      refine wa_aload_n (n := 0) rfl ?_
                      refine wb_gfi 158 rfl (wy_pr rfl) wt_158 wf_5_16 (v := ky) ((w_up_at (by decide)).trans (w_up_same _ _ _ _)) (fun r36 => ?_)
                      refine wa_aload_n (n := 0) rfl ?_
                      refine wb_gfl 158 rfl (wy_pr rfl) wt_158 wf_5_17 (v := vy) (w_up_same _ _ _ _) (fun r37 => ?_)
                      refine wa_cv 158 rfl (wy_pr rfl) wt_158 (M2 := mS [217, 218]) rfl at_XL_giveValue ⟨_, rfl⟩ rfl rfl ⟨trivial, trivial, trivial, (Or.inr ⟨wy_pr rfl, mS_no rfl⟩), (Or.inr ⟨wy_pr rfl, mS_no rfl⟩), trivial, trivial⟩ trivial (fun _ _ q => mS_sub (by decide) q) (glx_215 (S := (w_up (w_up (w_up (w_up (w_up (w_up Sq14 158 16 0) 158 17 0) 206 fi k1) 207 fi v1) 158 16 ky) 158 17 vy)) (k := ky) (v := vy) (h := h) (c := c) (p := p) (ba := ba) (w_CL_up (w_CL_up (w_CL_up (w_CL_up (w_CL_up (w_CL_up (CL_tr hC tr14) (by omega)) (by omega)) (by omega)) (by omega)) (by omega)) (by omega)) (gI_up (gI_up (gI_up (gI_up (gI_up (gI_up tr14.2.2.2.2.2.1 (by omega) (by omega) (by omega)) (by omega) (by omega) (by omega)) (by omega) (by omega) (by omega)) (by omega) (by omega) (by omega)) (by omega) (by omega) (by omega)) (by omega) (by omega) (by omega)) ((w_up_at (by decide)).trans ((w_up_at (by decide)).trans ((w_up_slot (by decide)).trans ((w_up_slot (by decide)).trans ((w_up_at (by decide)).trans ((w_up_at (by decide)).trans (((tr14.2.2.2.1 158 4 (by decide) (by decide) (by decide) (Or.inl (by decide))).trans (l4))))))))) ((w_up_at (by decide)).trans ((w_up_at (by decide)).trans ((w_up_slot (by decide)).trans ((w_up_slot (by decide)).trans ((w_up_at (by decide)).trans ((w_up_at (by decide)).trans (((tr14.2.2.2.1 158 5 (by decide) (by decide) (by decide) (Or.inl (by decide))).trans (l5))))))))) ((w_up_at (by decide)).trans ((w_up_at (by decide)).trans ((w_up_slot (by decide)).trans ((w_up_slot (by decide)).trans ((w_up_at (by decide)).trans ((w_up_at (by decide)).trans (((tr14.2.2.2.1 158 8 (by decide) (by decide) (by decide) (Or.inl (by decide))).trans (l8))))))))) ((w_up_slot (by decide)).trans ((w_up_slot (by decide)).trans ((w_up_slot (by decide)).trans ((w_up_slot (by decide)).trans ((w_up_slot (by decide)).trans ((w_up_slot (by decide)).trans (((tr14.2.2.2.1 215 4 (by decide) (by decide) (by decide) (Or.inl (by decide))).trans (bc))))))))) ((w_up_slot (by decide)).trans ((w_up_slot (by decide)).trans ((w_up_slot (by decide)).trans ((w_up_slot (by decide)).trans ((w_up_slot (by decide)).trans ((w_up_slot (by decide)).trans (((tr14.2.2.2.1 220 (c - 1) (by decide) (by decide) (by decide) (Or.inl (by decide))).trans (bp))))))))) ((((w_up_slot (by decide)).trans ((w_up_slot (by decide)).trans ((w_up_slot (by decide)).trans ((w_up_slot (by decide)).trans ((w_up_slot (by decide)).trans ((w_up_slot (by decide)).trans (((tr14.2.2.2.1 218 (-1) (by decide) (by decide) (by decide) (Or.inl (by decide))).trans (bl1)))))))))).trans (((w_up_slot (by decide)).trans ((w_up_slot (by decide)).trans ((w_up_slot (by decide)).trans ((w_up_slot (by decide)).trans ((w_up_slot (by decide)).trans ((w_up_slot (by decide)).trans (((tr14.2.2.2.1 217 (-1) (by decide) (by decide) (by decide) (Or.inl (by decide))).trans (rfl)))))))))).symm) (by have e : (w_up (w_up (w_up (w_up (w_up (w_up Sq14 158 16 0) 158 17 0) 206 fi k1) 207 fi v1) 158 16 ky) 158 17 vy) 217 (-1) = S 217 (-1) := ((w_up_slot (by decide)).trans ((w_up_slot (by decide)).trans ((w_up_slot (by decide)).trans ((w_up_slot (by decide)).trans ((w_up_slot (by decide)).trans ((w_up_slot (by decide)).trans (((tr14.2.2.2.1 217 (-1) (by decide) (by decide) (by decide) (Or.inl (by decide))).trans (rfl))))))))); rw [e]; exact ⟨bl2, bl3⟩) (by have e : (w_up (w_up (w_up (w_up (w_up (w_up Sq14 158 16 0) 158 17 0) 206 fi k1) 207 fi v1) 158 16 ky) 158 17 vy) 217 (-1) = S 217 (-1) := ((w_up_slot (by decide)).trans ((w_up_slot (by decide)).trans ((w_up_slot (by decide)).trans ((w_up_slot (by decide)).trans ((w_up_slot (by decide)).trans ((w_up_slot (by decide)).trans (((tr14.2.2.2.1 217 (-1) (by decide) (by decide) (by decide) (Or.inl (by decide))).trans (rfl))))))))); omega) ⟨by omega, by omega⟩ ⟨by omega, by omega⟩ ⟨by omega, by omega⟩ ⟨by omega, by omega⟩) (fun oq38 Sq38 hp39 q38 => ?_)
                      rcases q38 with ⟨rfl, hgv38⟩
                      show wJ _ _ _ _ _ _ _ _ _ _
                      refine wa_return rfl ?_
                      refine ⟨rfl, Or.inr ⟨by omega, Sq14, (w_up (w_up (w_up (w_up (w_up (w_up Sq14 158 16 0) 158 17 0) 206 fi k1) 207 fi v1) 158 16 ky) 158 17 vy), tr14, ?_, ?_⟩⟩
                      · exact fun j i hji => (w_up_no (by omega)).trans ((w_up_no (by omega)).trans (w_up_cg2 (w_up_cg2 ((w_up_no (by omega)).trans (w_up_no (by omega))))))
                      · first | (rw [if_pos (show kd = 1 by omega), if_pos (show kd = 1 by omega)]; exact hgv38) | (rw [if_neg (show ¬ kd = 1 by omega), if_neg (show ¬ kd = 1 by omega)]; exact hgv38)
                · skip
                  exact absurd c16 (by omega)
              · skip
                exact absurd c12 (by omega)
            · skip
              exact absurd c11 (by omega)
        · skip
          exact absurd c7 (by omega)
      · skip
        refine wa_aload_n (n := 2) rfl ?_
        refine wb_gf4 162 rfl (wy_pr rfl) wt_162 wf_3_3 (v := 185) wl_162_3 ?_
        refine wa_bipush (w_rg2 (by omega) (by omega)) ?_
        refine wb_aald5 185 15 rfl rfl (wy_pr rfl) wt_185 (by rw [show _ = _ from ((cl_185 hC))]; omega) wl_185_15 ?_
        refine wa_iload_n (n := 1) rfl ?_
        refine wb_iald 201 rfl (wy_pr rfl) wt_201 (n := 400) ((cl_201 hC)) (by omega) (by omega) (v := fl) (hmf) (fun r40 => ?_)
        refine wa_iconst ?_
        refine wa_icmpne (w_rg0 (by omega) (by omega)) (w_rg0 (by omega) (by omega)) ⟨_, rfl⟩ (fun c41 => ?_) (fun c41 => ?_)
        · skip
          refine wa_iconst ?_
          refine wa_fall ⟨_, rfl⟩ ?_
          refine wa_istore (n := 4) rfl ?_
          refine wa_iload_n (n := 3) rfl ?_
          refine wa_ifeq (w_rg0 (by omega) (by omega)) ⟨_, rfl⟩ (fun c42 => ?_) (fun c42 => ?_)
          · skip
            refine wa_iconst ?_
            refine wa_fall ⟨_, rfl⟩ ?_
            refine wa_istore (n := 5) rfl ?_
            refine wa_aload_n (n := 0) rfl ?_
            refine wb_gf4 158 rfl (wy_pr rfl) wt_158 wf_5_0 (v := 72) wl_158_0 ?_
            refine wb_gfi 72 rfl (wy_pr rfl) wt_72 wf_2_15 (v := tn) (ht15) (fun r43 => ?_)
            refine wa_iconst ?_
            refine wa_iadd ?_
            refine wb_ki (n := 100000) rfl ?_
            refine wa_icmpgt (w_rg0 (by omega) (by omega)) (w_rg0 (by omega) (by omega)) ⟨_, rfl⟩ (fun c44 => ?_) (fun c44 => ?_)
            · skip
              refine wa_aload_n (n := 0) rfl ?_
              refine wb_gf5 158 rfl (wy_pr rfl) wt_158 wf_5_4 (v := 215) (l4) (fun r45 => ?_)
              refine wa_bipush (w_rg2 (by omega) (by omega)) ?_
              refine wb_pfi 215 rfl (wy_pr rfl) wt_215 wf_8_16 (n := 16) rfl ⟨(by omega), (by omega)⟩ ?_
              refine wa_return rfl ?_
              exact ⟨rfl, Or.inl ⟨by omega, rfl⟩⟩
            · skip
              refine wa_iload_n (n := 3) rfl ?_
              refine wa_ifeq (w_rg0 (by omega) (by omega)) ⟨_, rfl⟩ (fun c46 => ?_) (fun c46 => ?_)
              · skip
                refine wa_iload (n := 4) rfl ?_
                refine wa_ifeq (w_rg0 (by omega) (by omega)) ⟨_, rfl⟩ (fun c47 => ?_) (fun c47 => ?_)
                · skip
                  refine wa_aload_n (n := 0) rfl ?_
                  refine wb_gf4 158 rfl (wy_pr rfl) wt_158 wf_5_0 (v := 72) wl_158_0 ?_
                  refine wa_iload_n (n := 1) rfl ?_
                  refine wa_aload_n (n := 0) rfl ?_
                  refine wb_gfi 158 rfl (wy_pr rfl) wt_158 wf_5_12 (v := en) (l12) (fun r48 => ?_)
                  refine wa_cv 72 rfl (wy_pr rfl) wt_72 (M2 := mS [152]) rfl at_XH_addTrace ⟨_, rfl⟩ rfl rfl ⟨trivial, trivial, trivial, (Or.inr ⟨wy_pr rfl, mS_no rfl⟩), (Or.inr ⟨wy_pr rfl, mS_no rfl⟩), trivial, trivial⟩ trivial (fun _ _ q => mS_sub (by decide) q) (tra (S := S) (m := m) (k := en) hI ⟨by omega, by omega⟩ ⟨by omega, by omega⟩ (by rw [ht15]; exact ht0) (by rw [ht15]; exact ht9)) (fun oq49 Sq49 hp50 q49 => ?_)
                  rcases q49 with ⟨rfl, tr49⟩
                  show wJ _ _ _ _ _ _ _ _ _ _
                  refine wa_aload_n (n := 0) rfl ?_
                  refine wa_iconst ?_
                  refine wb_pfi 158 rfl (wy_pr rfl) wt_158 wf_5_16 (n := 16) rfl ⟨(by omega), (by omega)⟩ ?_
                  refine wa_aload_n (n := 0) rfl ?_
                  refine wb_lconst (m := 0) rfl ?_
                  refine wb_pfl 158 rfl (wy_pr rfl) wt_158 wf_5_17 (n := 17) rfl ⟨(by omega), (by omega)⟩ ?_
                  refine wa_iload_n (n := 3) rfl ?_
                  refine wa_ifeq (w_rg0 (by omega) (by omega)) ⟨_, rfl⟩ (fun c51 => ?_) (fun c51 => ?_)
                  · skip
                    refine wa_aload_n (n := 2) rfl ?_
                    refine wb_gf4 162 rfl (wy_pr rfl) wt_162 wf_3_3 (v := 185) wl_162_3 ?_
                    refine wa_bipush (w_rg2 (by omega) (by omega)) ?_
                    refine wb_aald5 185 15 rfl rfl (wy_pr rfl) wt_185 (by rw [show _ = _ from ((w_up_slot (by decide)).trans ((w_up_slot (by decide)).trans (((tr49.2.2.2.1 185 (-1) (by decide) (by decide) (by decide) (Or.inl (by decide))).trans ((cl_185 hC))))))]; omega) wl_185_15 ?_
                    refine wa_iload_n (n := 1) rfl ?_
                    refine wb_iald 201 rfl (wy_pr rfl) wt_201 (n := 400) ((w_up_slot (by decide)).trans ((w_up_slot (by decide)).trans (((tr49.2.2.2.1 201 (-1) (by decide) (by decide) (by decide) (Or.inl (by decide))).trans ((cl_201 hC)))))) (by omega) (by omega) (v := fl) ((w_up_slot (by decide)).trans ((w_up_slot (by decide)).trans (((tr49.2.2.2.1 201 m (by decide) (by decide) (by decide) (Or.inl (by decide))).trans (hmf))))) (fun r52 => ?_)
                    refine wa_iconst ?_
                    refine wa_icmpeq (w_rg0 (by omega) (by omega)) (w_rg0 (by omega) (by omega)) ⟨_, rfl⟩ (fun c53 => ?_) (fun c53 => ?_)
                    · skip
                      exact absurd c53 (by omega)
                    · skip
                      refine wa_aload_n (n := 0) rfl ?_
                      refine wa_iload_n (n := 1) rfl ?_
                      refine wa_aload_n (n := 2) rfl ?_
                      refine wb_gf4 162 rfl (wy_pr rfl) wt_162 wf_3_3 (v := 185) wl_162_3 ?_
                      refine wa_bipush (w_rg2 (by omega) (by omega)) ?_
                      refine wb_aald5 185 15 rfl rfl (wy_pr rfl) wt_185 (by rw [show _ = _ from ((w_up_slot (by decide)).trans ((w_up_slot (by decide)).trans (((tr49.2.2.2.1 185 (-1) (by decide) (by decide) (by decide) (Or.inl (by decide))).trans ((cl_185 hC))))))]; omega) wl_185_15 ?_
                      refine wa_iload_n (n := 1) rfl ?_
                      refine wb_iald 201 rfl (wy_pr rfl) wt_201 (n := 400) ((w_up_slot (by decide)).trans ((w_up_slot (by decide)).trans (((tr49.2.2.2.1 201 (-1) (by decide) (by decide) (by decide) (Or.inl (by decide))).trans ((cl_201 hC)))))) (by omega) (by omega) (v := fl) ((w_up_slot (by decide)).trans ((w_up_slot (by decide)).trans (((tr49.2.2.2.1 201 m (by decide) (by decide) (by decide) (Or.inl (by decide))).trans (hmf))))) (fun r54 => ?_)
                      have hf2 : ∀ (j : Nat) (i : Int), j < 4000000 → j ≠ wG → j ≠ 152 → j ≠ 72 → j ≠ 158 → (w_up (w_up Sq49 158 16 0) 158 17 0) j i = S j i := fun j i a b c d e => (w_up_no (fun z => e z.1)).trans ((w_up_no (fun z => e z.1)).trans (tr49.2.2.2.1 j i a b c (Or.inl d)))
                      have el : (w_up (w_up Sq49 158 16 0) 158 17 0) 206 (-1) = S 206 (-1) := (hf2 206 _ (by first | decide | omega) (by first | decide | omega) (by first | decide | omega) (by first | decide | omega) (by first | decide | omega))
                      have el2 : (w_up (w_up Sq49 158 16 0) 158 17 0) 207 (-1) = S 207 (-1) := (hf2 207 _ (by first | decide | omega) (by first | decide | omega) (by first | decide | omega) (by first | decide | omega) (by first | decide | omega))
                      have el8 : (w_up (w_up Sq49 158 16 0) 158 17 0) 217 (-1) = S 217 (-1) := (hf2 217 _ (by first | decide | omega) (by first | decide | omega) (by first | decide | omega) (by first | decide | omega) (by first | decide | omega))
                      have el9 : (w_up (w_up Sq49 158 16 0) 158 17 0) 218 (-1) = S 218 (-1) := (hf2 218 _ (by first | decide | omega) (by first | decide | omega) (by first | decide | omega) (by first | decide | omega) (by first | decide | omega))
                      refine wa_cv 158 rfl (wy_pr rfl) wt_158 (M2 := fun _ => False) rfl at_XL_useField ⟨_, rfl⟩ rfl rfl ⟨trivial, trivial, trivial, (Or.inr ⟨wy_pr rfl, fun q => q⟩), (Or.inr ⟨wy_pr rfl, fun q => q⟩), trivial, trivial⟩ trivial (fun _ _ q => False.elim q) (uss1_162_215 (S := (w_up (w_up Sq49 158 16 0) 158 17 0)) (m := m) (f := fl) (w_CL_up (w_CL_up (CL_tr hC tr49) (by omega)) (by omega)) ((w_up_slot (by decide)).trans ((w_up_slot (by decide)).trans (((tr49.2.2.2.1 72 1 (by decide) (by decide) (by decide) (Or.inr (by decide))).trans (h72))))) ((w_up_at (by decide)).trans ((w_up_at (by decide)).trans (((tr49.2.2.2.1 158 5 (by decide) (by decide) (by decide) (Or.inl (by decide))).trans (l5))))) ((w_up_at (by decide)).trans ((w_up_at (by decide)).trans (((tr49.2.2.2.1 158 8 (by decide) (by decide) (by decide) (Or.inl (by decide))).trans (l8))))) (((w_up_at (by decide)).trans ((w_up_at (by decide)).trans ((tr49.2.2.2.1 158 10 (by decide) (by decide) (by decide) (Or.inl (by decide)))))).trans l10) hm hfl ((hf2 188 _ (by decide) (by decide) (by decide) (by decide) (by decide)).trans hstt) ((hf2 201 _ (by decide) (by decide) (by decide) (by decide) (by decide)).trans hfi) (by rw [el, el2]; exact hrl) (by rw [el]; exact hrb) ((hf2 190 _ (by decide) (by decide) (by decide) (by decide) (by decide)).trans hmc) (by rw [el8, el9]; exact bl1) (by rw [el8]; exact ⟨by omega, by omega, bl3⟩) ((hf2 217 _ (by decide) (by decide) (by decide) (by decide) (by decide)).trans hk1) ((hf2 218 _ (by decide) (by decide) (by decide) (by decide) (by decide)).trans hv1)) (fun oq55 Sq55 hp56 q55 => ?_)
                      rcases q55 with ⟨rfl, rfl⟩
                      show wJ _ _ _ _ _ _ _ _ _ _
                      refine wa_goto ⟨_, rfl⟩ ?_
                      refine wa_aload_n (n := 0) rfl ?_
                      refine wb_gfi 158 rfl (wy_pr rfl) wt_158 wf_5_7 (v := kd) ((w_up_slot (by decide)).trans ((w_up_slot (by decide)).trans ((w_up_at (by decide)).trans ((w_up_at (by decide)).trans (((tr49.2.2.2.1 158 7 (by decide) (by decide) (by decide) (Or.inl (by decide))).trans (l7))))))) (fun r57 => ?_)
                      refine wa_iconst ?_
                      refine wa_icmpne (w_rg0 (by omega) (by omega)) (w_rg0 (by omega) (by omega)) ⟨_, rfl⟩ (fun c58 => ?_) (fun c58 => ?_)
                      · skip
                        refine wa_aload_n (n := 0) rfl ?_
                        refine wa_aload_n (n := 0) rfl ?_
                        refine wb_gfi 158 rfl (wy_pr rfl) wt_158 wf_5_16 (v := 0) ((w_up_slot (by decide)).trans ((w_up_slot (by decide)).trans ((w_up_at (by decide)).trans (w_up_same _ _ _ _)))) (fun r59 => ?_)
                        refine wa_aload_n (n := 0) rfl ?_
                        refine wb_gfl 158 rfl (wy_pr rfl) wt_158 wf_5_17 (v := 0) ((w_up_slot (by decide)).trans ((w_up_slot (by decide)).trans (w_up_same _ _ _ _))) (fun r60 => ?_)
                        refine wa_cv 158 rfl (wy_pr rfl) wt_158 (M2 := mS [217, 218]) rfl at_XL_giveValue ⟨_, rfl⟩ rfl rfl ⟨trivial, trivial, trivial, (Or.inr ⟨wy_pr rfl, mS_no rfl⟩), (Or.inr ⟨wy_pr rfl, mS_no rfl⟩), trivial, trivial⟩ trivial (fun _ _ q => mS_sub (by decide) q) (glx_215 (S := (w_up (w_up (w_up (w_up Sq49 158 16 0) 158 17 0) 206 fi k1) 207 fi v1)) (k := 0) (v := 0) (h := h) (c := c) (p := p) (ba := ba) (w_CL_up (w_CL_up (w_CL_up (w_CL_up (CL_tr hC tr49) (by omega)) (by omega)) (by omega)) (by omega)) (gI_up (gI_up (gI_up (gI_up tr49.2.2.2.2.2.1 (by omega) (by omega) (by omega)) (by omega) (by omega) (by omega)) (by omega) (by omega) (by omega)) (by omega) (by omega) (by omega)) ((w_up_slot (by decide)).trans ((w_up_slot (by decide)).trans ((w_up_at (by decide)).trans ((w_up_at (by decide)).trans (((tr49.2.2.2.1 158 4 (by decide) (by decide) (by decide) (Or.inl (by decide))).trans (l4))))))) ((w_up_slot (by decide)).trans ((w_up_slot (by decide)).trans ((w_up_at (by decide)).trans ((w_up_at (by decide)).trans (((tr49.2.2.2.1 158 5 (by decide) (by decide) (by decide) (Or.inl (by decide))).trans (l5))))))) ((w_up_slot (by decide)).trans ((w_up_slot (by decide)).trans ((w_up_at (by decide)).trans ((w_up_at (by decide)).trans (((tr49.2.2.2.1 158 8 (by decide) (by decide) (by decide) (Or.inl (by decide))).trans (l8))))))) ((w_up_slot (by decide)).trans ((w_up_slot (by decide)).trans ((w_up_slot (by decide)).trans ((w_up_slot (by decide)).trans (((tr49.2.2.2.1 215 4 (by decide) (by decide) (by decide) (Or.inl (by decide))).trans (bc))))))) ((w_up_slot (by decide)).trans ((w_up_slot (by decide)).trans ((w_up_slot (by decide)).trans ((w_up_slot (by decide)).trans (((tr49.2.2.2.1 220 (c - 1) (by decide) (by decide) (by decide) (Or.inl (by decide))).trans (bp))))))) ((((w_up_slot (by decide)).trans ((w_up_slot (by decide)).trans ((w_up_slot (by decide)).trans ((w_up_slot (by decide)).trans (((tr49.2.2.2.1 218 (-1) (by decide) (by decide) (by decide) (Or.inl (by decide))).trans (bl1)))))))).trans (((w_up_slot (by decide)).trans ((w_up_slot (by decide)).trans ((w_up_slot (by decide)).trans ((w_up_slot (by decide)).trans (((tr49.2.2.2.1 217 (-1) (by decide) (by decide) (by decide) (Or.inl (by decide))).trans (rfl)))))))).symm) (by have e : (w_up (w_up (w_up (w_up Sq49 158 16 0) 158 17 0) 206 fi k1) 207 fi v1) 217 (-1) = S 217 (-1) := ((w_up_slot (by decide)).trans ((w_up_slot (by decide)).trans ((w_up_slot (by decide)).trans ((w_up_slot (by decide)).trans (((tr49.2.2.2.1 217 (-1) (by decide) (by decide) (by decide) (Or.inl (by decide))).trans (rfl))))))); rw [e]; exact ⟨bl2, bl3⟩) (by have e : (w_up (w_up (w_up (w_up Sq49 158 16 0) 158 17 0) 206 fi k1) 207 fi v1) 217 (-1) = S 217 (-1) := ((w_up_slot (by decide)).trans ((w_up_slot (by decide)).trans ((w_up_slot (by decide)).trans ((w_up_slot (by decide)).trans (((tr49.2.2.2.1 217 (-1) (by decide) (by decide) (by decide) (Or.inl (by decide))).trans (rfl))))))); omega) ⟨by omega, by omega⟩ ⟨by omega, by omega⟩ ⟨by omega, by omega⟩ ⟨by omega, by omega⟩) (fun oq61 Sq61 hp62 q61 => ?_)
                        rcases q61 with ⟨rfl, hgv61⟩
                        show wJ _ _ _ _ _ _ _ _ _ _
                        refine wa_return rfl ?_
                        refine ⟨rfl, Or.inr ⟨by omega, Sq49, (w_up (w_up (w_up (w_up Sq49 158 16 0) 158 17 0) 206 fi k1) 207 fi v1), tr49, ?_, ?_⟩⟩
                        · exact fun j i hji => w_up_cg2 (w_up_cg2 ((w_up_no (by omega)).trans (w_up_no (by omega))))
                        · first | (rw [if_pos (show kd = 1 by omega), if_pos (show kd = 1 by omega)]; exact hgv61) | (rw [if_neg (show ¬ kd = 1 by omega), if_neg (show ¬ kd = 1 by omega)]; exact hgv61)
                      · skip
                        refine wa_aload_n (n := 0) rfl ?_
                        refine wa_aload_n (n := 0) rfl ?_
                        refine wb_gf5 158 rfl (wy_pr rfl) wt_158 wf_5_5 (v := 216) ((w_up_slot (by decide)).trans ((w_up_slot (by decide)).trans ((w_up_at (by decide)).trans ((w_up_at (by decide)).trans (((tr49.2.2.2.1 158 5 (by decide) (by decide) (by decide) (Or.inl (by decide))).trans (l5))))))) (fun r63 => ?_)
                        refine wb_gf4 216 rfl (wy_pr rfl) wt_216 wf_7_0 (v := 217) wl_216_0 ?_
                        refine wa_aload_n (n := 0) rfl ?_
                        refine wb_gf5 158 rfl (wy_pr rfl) wt_158 wf_5_5 (v := 216) ((w_up_slot (by decide)).trans ((w_up_slot (by decide)).trans ((w_up_at (by decide)).trans ((w_up_at (by decide)).trans (((tr49.2.2.2.1 158 5 (by decide) (by decide) (by decide) (Or.inl (by decide))).trans (l5))))))) (fun r64 => ?_)
                        refine wb_gfi 216 rfl (wy_pr rfl) wt_216 wf_7_2 (v := h) ((w_up_slot (by decide)).trans ((w_up_slot (by decide)).trans ((w_up_slot (by decide)).trans ((w_up_slot (by decide)).trans (((tr49.2.2.2.1 216 2 (by decide) (by decide) (by decide) (Or.inl (by decide))).trans (bh))))))) (fun r65 => ?_)
                        refine wa_iconst ?_
                        refine wa_isub ?_
                        refine wb_bald 217 rfl (wy_pr rfl) wt_217 (n := (S 217 (-1))) ((w_up_slot (by decide)).trans ((w_up_slot (by decide)).trans ((w_up_slot (by decide)).trans ((w_up_slot (by decide)).trans (((tr49.2.2.2.1 217 (-1) (by decide) (by decide) (by decide) (Or.inl (by decide))).trans (rfl))))))) (by omega) (by omega) (v := ky) ((w_up_slot (by decide)).trans ((w_up_slot (by decide)).trans ((w_up_slot (by decide)).trans ((w_up_slot (by decide)).trans (((tr49.2.2.2.1 217 (h - 1) (by decide) (by decide) (by decide) (Or.inl (by decide))).trans (hky))))))) (fun r66 => ?_)
                        refine wb_pfi 158 rfl (wy_pr rfl) wt_158 wf_5_16 (n := 16) rfl ⟨(by omega), (by omega)⟩ ?_
                        refine wa_aload_n (n := 0) rfl ?_
                        refine wa_aload_n (n := 0) rfl ?_
                        refine wb_gf5 158 rfl (wy_pr rfl) wt_158 wf_5_5 (v := 216) ((w_up_at (by decide)).trans ((w_up_slot (by decide)).trans ((w_up_slot (by decide)).trans ((w_up_at (by decide)).trans ((w_up_at (by decide)).trans (((tr49.2.2.2.1 158 5 (by decide) (by decide) (by decide) (Or.inl (by decide))).trans (l5)))))))) (fun r67 => ?_)
                        refine wb_gf4 216 rfl (wy_pr rfl) wt_216 wf_7_1 (v := 218) wl_216_1 ?_
                        refine wa_aload_n (n := 0) rfl ?_
                        refine wb_gf5 158 rfl (wy_pr rfl) wt_158 wf_5_5 (v := 216) ((w_up_at (by decide)).trans ((w_up_slot (by decide)).trans ((w_up_slot (by decide)).trans ((w_up_at (by decide)).trans ((w_up_at (by decide)).trans (((tr49.2.2.2.1 158 5 (by decide) (by decide) (by decide) (Or.inl (by decide))).trans (l5)))))))) (fun r68 => ?_)
                        refine wb_gfi 216 rfl (wy_pr rfl) wt_216 wf_7_2 (v := h) ((w_up_slot (by decide)).trans ((w_up_slot (by decide)).trans ((w_up_slot (by decide)).trans ((w_up_slot (by decide)).trans ((w_up_slot (by decide)).trans (((tr49.2.2.2.1 216 2 (by decide) (by decide) (by decide) (Or.inl (by decide))).trans (bh)))))))) (fun r69 => ?_)
                        refine wa_iconst ?_
                        refine wa_isub ?_
                        refine wb_lald 218 rfl (wy_pr rfl) wt_218 (n := (S 217 (-1))) ((w_up_slot (by decide)).trans ((w_up_slot (by decide)).trans ((w_up_slot (by decide)).trans ((w_up_slot (by decide)).trans ((w_up_slot (by decide)).trans (((tr49.2.2.2.1 218 (-1) (by decide) (by decide) (by decide) (Or.inl (by decide))).trans (bl1)))))))) (by omega) (by omega) (v := vy) ((w_up_slot (by decide)).trans ((w_up_slot (by decide)).trans ((w_up_slot (by decide)).trans ((w_up_slot (by decide)).trans ((w_up_slot (by decide)).trans (((tr49.2.2.2.1 218 (h - 1) (by decide) (by decide) (by decide) (Or.inl (by decide))).trans (hvy)))))))) (fun r70 => ?_)
                        refine wb_pfl 158 rfl (wy_pr rfl) wt_158 wf_5_17 (n := 17) rfl ⟨(by omega), (by omega)⟩ ?_
                        refine wa_fall ⟨_, rfl⟩ ?_
                        refine wa_aload_n (n := 0) rfl ?_
                        refine wa_aload_n (n := 0) rfl ?_
                        refine wb_gfi 158 rfl (wy_pr rfl) wt_158 wf_5_16 (v := ky) ((w_up_at (by decide)).trans (w_up_same _ _ _ _)) (fun r71 => ?_)
                        refine wa_aload_n (n := 0) rfl ?_
                        refine wb_gfl 158 rfl (wy_pr rfl) wt_158 wf_5_17 (v := vy) (w_up_same _ _ _ _) (fun r72 => ?_)
                        refine wa_cv 158 rfl (wy_pr rfl) wt_158 (M2 := mS [217, 218]) rfl at_XL_giveValue ⟨_, rfl⟩ rfl rfl ⟨trivial, trivial, trivial, (Or.inr ⟨wy_pr rfl, mS_no rfl⟩), (Or.inr ⟨wy_pr rfl, mS_no rfl⟩), trivial, trivial⟩ trivial (fun _ _ q => mS_sub (by decide) q) (glx_215 (S := (w_up (w_up (w_up (w_up (w_up (w_up Sq49 158 16 0) 158 17 0) 206 fi k1) 207 fi v1) 158 16 ky) 158 17 vy)) (k := ky) (v := vy) (h := h) (c := c) (p := p) (ba := ba) (w_CL_up (w_CL_up (w_CL_up (w_CL_up (w_CL_up (w_CL_up (CL_tr hC tr49) (by omega)) (by omega)) (by omega)) (by omega)) (by omega)) (by omega)) (gI_up (gI_up (gI_up (gI_up (gI_up (gI_up tr49.2.2.2.2.2.1 (by omega) (by omega) (by omega)) (by omega) (by omega) (by omega)) (by omega) (by omega) (by omega)) (by omega) (by omega) (by omega)) (by omega) (by omega) (by omega)) (by omega) (by omega) (by omega)) ((w_up_at (by decide)).trans ((w_up_at (by decide)).trans ((w_up_slot (by decide)).trans ((w_up_slot (by decide)).trans ((w_up_at (by decide)).trans ((w_up_at (by decide)).trans (((tr49.2.2.2.1 158 4 (by decide) (by decide) (by decide) (Or.inl (by decide))).trans (l4))))))))) ((w_up_at (by decide)).trans ((w_up_at (by decide)).trans ((w_up_slot (by decide)).trans ((w_up_slot (by decide)).trans ((w_up_at (by decide)).trans ((w_up_at (by decide)).trans (((tr49.2.2.2.1 158 5 (by decide) (by decide) (by decide) (Or.inl (by decide))).trans (l5))))))))) ((w_up_at (by decide)).trans ((w_up_at (by decide)).trans ((w_up_slot (by decide)).trans ((w_up_slot (by decide)).trans ((w_up_at (by decide)).trans ((w_up_at (by decide)).trans (((tr49.2.2.2.1 158 8 (by decide) (by decide) (by decide) (Or.inl (by decide))).trans (l8))))))))) ((w_up_slot (by decide)).trans ((w_up_slot (by decide)).trans ((w_up_slot (by decide)).trans ((w_up_slot (by decide)).trans ((w_up_slot (by decide)).trans ((w_up_slot (by decide)).trans (((tr49.2.2.2.1 215 4 (by decide) (by decide) (by decide) (Or.inl (by decide))).trans (bc))))))))) ((w_up_slot (by decide)).trans ((w_up_slot (by decide)).trans ((w_up_slot (by decide)).trans ((w_up_slot (by decide)).trans ((w_up_slot (by decide)).trans ((w_up_slot (by decide)).trans (((tr49.2.2.2.1 220 (c - 1) (by decide) (by decide) (by decide) (Or.inl (by decide))).trans (bp))))))))) ((((w_up_slot (by decide)).trans ((w_up_slot (by decide)).trans ((w_up_slot (by decide)).trans ((w_up_slot (by decide)).trans ((w_up_slot (by decide)).trans ((w_up_slot (by decide)).trans (((tr49.2.2.2.1 218 (-1) (by decide) (by decide) (by decide) (Or.inl (by decide))).trans (bl1)))))))))).trans (((w_up_slot (by decide)).trans ((w_up_slot (by decide)).trans ((w_up_slot (by decide)).trans ((w_up_slot (by decide)).trans ((w_up_slot (by decide)).trans ((w_up_slot (by decide)).trans (((tr49.2.2.2.1 217 (-1) (by decide) (by decide) (by decide) (Or.inl (by decide))).trans (rfl)))))))))).symm) (by have e : (w_up (w_up (w_up (w_up (w_up (w_up Sq49 158 16 0) 158 17 0) 206 fi k1) 207 fi v1) 158 16 ky) 158 17 vy) 217 (-1) = S 217 (-1) := ((w_up_slot (by decide)).trans ((w_up_slot (by decide)).trans ((w_up_slot (by decide)).trans ((w_up_slot (by decide)).trans ((w_up_slot (by decide)).trans ((w_up_slot (by decide)).trans (((tr49.2.2.2.1 217 (-1) (by decide) (by decide) (by decide) (Or.inl (by decide))).trans (rfl))))))))); rw [e]; exact ⟨bl2, bl3⟩) (by have e : (w_up (w_up (w_up (w_up (w_up (w_up Sq49 158 16 0) 158 17 0) 206 fi k1) 207 fi v1) 158 16 ky) 158 17 vy) 217 (-1) = S 217 (-1) := ((w_up_slot (by decide)).trans ((w_up_slot (by decide)).trans ((w_up_slot (by decide)).trans ((w_up_slot (by decide)).trans ((w_up_slot (by decide)).trans ((w_up_slot (by decide)).trans (((tr49.2.2.2.1 217 (-1) (by decide) (by decide) (by decide) (Or.inl (by decide))).trans (rfl))))))))); omega) ⟨by omega, by omega⟩ ⟨by omega, by omega⟩ ⟨by omega, by omega⟩ ⟨by omega, by omega⟩) (fun oq73 Sq73 hp74 q73 => ?_)
                        rcases q73 with ⟨rfl, hgv73⟩
                        show wJ _ _ _ _ _ _ _ _ _ _
                        refine wa_return rfl ?_
                        refine ⟨rfl, Or.inr ⟨by omega, Sq49, (w_up (w_up (w_up (w_up (w_up (w_up Sq49 158 16 0) 158 17 0) 206 fi k1) 207 fi v1) 158 16 ky) 158 17 vy), tr49, ?_, ?_⟩⟩
                        · exact fun j i hji => (w_up_no (by omega)).trans ((w_up_no (by omega)).trans (w_up_cg2 (w_up_cg2 ((w_up_no (by omega)).trans (w_up_no (by omega))))))
                        · first | (rw [if_pos (show kd = 1 by omega), if_pos (show kd = 1 by omega)]; exact hgv73) | (rw [if_neg (show ¬ kd = 1 by omega), if_neg (show ¬ kd = 1 by omega)]; exact hgv73)
                  · skip
                    exact absurd c51 (by omega)
                · skip
                  exact absurd c47 (by omega)
              · skip
                exact absurd c46 (by omega)
          · skip
            exact absurd c42 (by omega)
        · skip
          exact absurd c41 (by omega)
  · skip
    exact absurd c3 (by omega)
set_option maxHeartbeats 4000000 in
theorem cmg0_162_215 {c p h kd ba m en tn ky vy fl fi gb ty st vk vb : Int} (hP : xP 215 c p h S) (l4 : S 158 4 = 215) (l5 : S 158 5 = 216) (l7 : S 158 7 = kd) (l8 : S 158 8 = ba) (l12 : S 158 12 = en) (hen : 0 ≤ en ∧ en ≤ 1000) (hba : 0 ≤ ba ∧ ba < h) (h72 : S 72 1 = 162) (hm : 0 ≤ m ∧ m < 400) (hso : S 187 m = 1) (ht15 : S 72 15 = tn) (ht0 : 0 ≤ tn ∧ tn ≤ S 152 (-1) ∧ tn ≤ 100000) (ht9 : 16 ≤ S 152 (-1) ∧ S 152 (-1) ≤ 131072 ∨ (16 ≤ S 152 (-1) ∧ S 152 (-1) ≤ 262143 ∧ tn + 2 ≤ S 152 (-1))) (hky : S 217 (h - 1) = ky) (hvy : S 218 (h - 1) = vy) (hkr : -128 ≤ ky ∧ ky ≤ 127) (hvr : -9223372036854775808 ≤ vy ∧ vy ≤ 9223372036854775807) (hmf : S 201 m = fl) (hfl : 0 ≤ fl ∧ fl < 400) (hstt : S 188 fl = 0) (hfi : S 201 fl = fi) (l10 : S 158 10 = gb) (hmt : S 189 m = ty) (hmc : S 190 m = 0) (hth : ∀ x : Nat, x < 10 → S (127 + x) (-1) = S 127 (-1)) (hn2 : S 127 (-1) ≤ 16383) (hl14 : S 142 (-1) = S 141 (-1)) (hz14 : 16 ≤ S 141 (-1) ∧ S 141 (-1) ≤ 480400) (hgb : 0 ≤ gb ∧ gb < S 127 (-1)) (hst : S 133 gb = st) (hrb : 0 ≤ st ∧ 0 ≤ fi ∧ fi ≤ 1000 ∧ st + fi < S 141 (-1)) (hvk : S 141 (st + fi) = vk) (hvb : S 142 (st + fi) = vb) (hvr2 : -128 ≤ vk ∧ vk ≤ 127) (hvs : -9223372036854775808 ≤ vb ∧ vb ≤ 9223372036854775807) : wJ (pe_GA xs) wY0 (mS [217, 218, 152]) (d + 6) t_XL_callMember ((pe_at t_XL_callMember.bl 0).getD (0, [])).2 [(0, (2, 158)), (1, (0, m))] [] S (fun o Z => o = .inl none ∧ ((100000 < tn + 2 ∧ w_up S 215 16 99 = Z) ∨ (¬ (100000 < tn + 2) ∧ cmE 215 h c p (h - ba) kd ky vy vk vb m en gvR S Z))) := by
  obtain ⟨⟨hC, hI⟩, ⟨bc, bc0, bc1⟩, ⟨bp, bp0, bp1⟩, ⟨bh, bh0, bh1, bh2⟩, bl1, bl2, bl3⟩ := hP
  replace bp : S 220 (c - 1) = p := bp
  replace bh : S 216 2 = h := bh
  replace bh2 : h ≤ S 217 (-1) := bh2
  replace bl1 : S 218 (-1) = S 217 (-1) := bl1
  replace bl2 : 64 ≤ S 217 (-1) := bl2
  replace bl3 : S 217 (-1) ≤ 4095 := bl3
  refine wa_aload_n (n := 0) rfl ?_
  refine wb_gf4 158 rfl (wy_pr rfl) wt_158 wf_5_0 (v := 72) wl_158_0 ?_
  refine wb_gf5 72 rfl (wy_pr rfl) wt_72 wf_2_1 (v := 162) (h72) (fun r1 => ?_)
  refine wa_astore_n (n := 2) rfl ?_
  refine wa_aload_n (n := 2) rfl ?_
  refine wb_gf4 162 rfl (wy_pr rfl) wt_162 wf_3_3 (v := 185) wl_162_3 ?_
  refine wa_iconst ?_
  refine wb_aald5 185 1 rfl rfl (wy_pr rfl) wt_185 (by rw [show _ = _ from ((cl_185 hC))]; omega) wl_185_1 ?_
  refine wa_iload_n (n := 1) rfl ?_
  refine wb_iald 187 rfl (wy_pr rfl) wt_187 (n := 400) ((cl_187 hC)) (by omega) (by omega) (v := 1) (hso) (fun r2 => ?_)
  refine wa_iconst ?_
  refine wa_icmpne (w_rg0 (by omega) (by omega)) (w_rg0 (by omega) (by omega)) ⟨_, rfl⟩ (fun c3 => ?_) (fun c3 => ?_)
  · skip
    refine wa_iconst ?_
    refine wa_fall ⟨_, rfl⟩ ?_
    refine wa_istore_n (n := 3) rfl ?_
    refine wa_iload_n (n := 3) rfl ?_
    refine wa_ifne (w_rg0 (by omega) (by omega)) ⟨_, rfl⟩ (fun c4 => ?_) (fun c4 => ?_)
    · skip
      exact absurd c4 (by omega)
    · skip
      refine wa_aload_n (n := 2) rfl ?_
      refine wb_gf4 162 rfl (wy_pr rfl) wt_162 wf_3_3 (v := 185) wl_162_3 ?_
      refine wa_iconst ?_
      refine wb_aald5 185 3 rfl rfl (wy_pr rfl) wt_185 (by rw [show _ = _ from ((cl_185 hC))]; omega) wl_185_3 ?_
      refine wa_iload_n (n := 1) rfl ?_
      refine wb_iald 189 rfl (wy_pr rfl) wt_189 (n := 400) ((cl_189 hC)) (by omega) (by omega) (v := ty) (hmt) (fun r5 => ?_)
      refine wa_bipush (w_rg2 (by omega) (by omega)) ?_
      refine wa_icmpne (w_rg0 (by omega) (by omega)) (w_rg0 (by omega) (by omega)) ⟨_, rfl⟩ (fun c6 => ?_) (fun c6 => ?_)
      · skip
        refine wa_iconst ?_
        refine wa_fall ⟨_, rfl⟩ ?_
        refine wa_istore (n := 4) rfl ?_
        refine wa_iload_n (n := 3) rfl ?_
        refine wa_ifeq (w_rg0 (by omega) (by omega)) ⟨_, rfl⟩ (fun c7 => ?_) (fun c7 => ?_)
        · skip
          refine wa_iconst ?_
          refine wa_fall ⟨_, rfl⟩ ?_
          refine wa_istore (n := 5) rfl ?_
          refine wa_aload_n (n := 0) rfl ?_
          refine wb_gf4 158 rfl (wy_pr rfl) wt_158 wf_5_0 (v := 72) wl_158_0 ?_
          refine wb_gfi 72 rfl (wy_pr rfl) wt_72 wf_2_15 (v := tn) (ht15) (fun r8 => ?_)
          refine wa_iconst ?_
          refine wa_iadd ?_
          refine wb_ki (n := 100000) rfl ?_
          refine wa_icmpgt (w_rg0 (by omega) (by omega)) (w_rg0 (by omega) (by omega)) ⟨_, rfl⟩ (fun c9 => ?_) (fun c9 => ?_)
          · skip
            refine wa_aload_n (n := 0) rfl ?_
            refine wb_gf5 158 rfl (wy_pr rfl) wt_158 wf_5_4 (v := 215) (l4) (fun r10 => ?_)
            refine wa_bipush (w_rg2 (by omega) (by omega)) ?_
            refine wb_pfi 215 rfl (wy_pr rfl) wt_215 wf_8_16 (n := 16) rfl ⟨(by omega), (by omega)⟩ ?_
            refine wa_return rfl ?_
            exact ⟨rfl, Or.inl ⟨by omega, rfl⟩⟩
          · skip
            refine wa_iload_n (n := 3) rfl ?_
            refine wa_ifeq (w_rg0 (by omega) (by omega)) ⟨_, rfl⟩ (fun c11 => ?_) (fun c11 => ?_)
            · skip
              refine wa_iload (n := 4) rfl ?_
              refine wa_ifeq (w_rg0 (by omega) (by omega)) ⟨_, rfl⟩ (fun c12 => ?_) (fun c12 => ?_)
              · skip
                refine wa_aload_n (n := 0) rfl ?_
                refine wb_gf4 158 rfl (wy_pr rfl) wt_158 wf_5_0 (v := 72) wl_158_0 ?_
                refine wa_iload_n (n := 1) rfl ?_
                refine wa_aload_n (n := 0) rfl ?_
                refine wb_gfi 158 rfl (wy_pr rfl) wt_158 wf_5_12 (v := en) (l12) (fun r13 => ?_)
                refine wa_cv 72 rfl (wy_pr rfl) wt_72 (M2 := mS [152]) rfl at_XH_addTrace ⟨_, rfl⟩ rfl rfl ⟨trivial, trivial, trivial, (Or.inr ⟨wy_pr rfl, mS_no rfl⟩), (Or.inr ⟨wy_pr rfl, mS_no rfl⟩), trivial, trivial⟩ trivial (fun _ _ q => mS_sub (by decide) q) (tra (S := S) (m := m) (k := en) hI ⟨by omega, by omega⟩ ⟨by omega, by omega⟩ (by rw [ht15]; exact ht0) (by rw [ht15]; exact ht9)) (fun oq14 Sq14 hp15 q14 => ?_)
                rcases q14 with ⟨rfl, tr14⟩
                show wJ _ _ _ _ _ _ _ _ _ _
                refine wa_aload_n (n := 0) rfl ?_
                refine wa_iconst ?_
                refine wb_pfi 158 rfl (wy_pr rfl) wt_158 wf_5_16 (n := 16) rfl ⟨(by omega), (by omega)⟩ ?_
                refine wa_aload_n (n := 0) rfl ?_
                refine wb_lconst (m := 0) rfl ?_
                refine wb_pfl 158 rfl (wy_pr rfl) wt_158 wf_5_17 (n := 17) rfl ⟨(by omega), (by omega)⟩ ?_
                refine wa_iload_n (n := 3) rfl ?_
                refine wa_ifeq (w_rg0 (by omega) (by omega)) ⟨_, rfl⟩ (fun c16 => ?_) (fun c16 => ?_)
                · skip
                  refine wa_aload_n (n := 2) rfl ?_
                  refine wb_gf4 162 rfl (wy_pr rfl) wt_162 wf_3_3 (v := 185) wl_162_3 ?_
                  refine wa_bipush (w_rg2 (by omega) (by omega)) ?_
                  refine wb_aald5 185 15 rfl rfl (wy_pr rfl) wt_185 (by rw [show _ = _ from ((w_up_slot (by decide)).trans ((w_up_slot (by decide)).trans (((tr14.2.2.2.1 185 (-1) (by decide) (by decide) (by decide) (Or.inl (by decide))).trans ((cl_185 hC))))))]; omega) wl_185_15 ?_
                  refine wa_iload_n (n := 1) rfl ?_
                  refine wb_iald 201 rfl (wy_pr rfl) wt_201 (n := 400) ((w_up_slot (by decide)).trans ((w_up_slot (by decide)).trans (((tr14.2.2.2.1 201 (-1) (by decide) (by decide) (by decide) (Or.inl (by decide))).trans ((cl_201 hC)))))) (by omega) (by omega) (v := fl) ((w_up_slot (by decide)).trans ((w_up_slot (by decide)).trans (((tr14.2.2.2.1 201 m (by decide) (by decide) (by decide) (Or.inl (by decide))).trans (hmf))))) (fun r17 => ?_)
                  refine wa_iconst ?_
                  refine wa_icmpeq (w_rg0 (by omega) (by omega)) (w_rg0 (by omega) (by omega)) ⟨_, rfl⟩ (fun c18 => ?_) (fun c18 => ?_)
                  · skip
                    exact absurd c18 (by omega)
                  · skip
                    refine wa_aload_n (n := 0) rfl ?_
                    refine wa_iload_n (n := 1) rfl ?_
                    refine wa_aload_n (n := 2) rfl ?_
                    refine wb_gf4 162 rfl (wy_pr rfl) wt_162 wf_3_3 (v := 185) wl_162_3 ?_
                    refine wa_bipush (w_rg2 (by omega) (by omega)) ?_
                    refine wb_aald5 185 15 rfl rfl (wy_pr rfl) wt_185 (by rw [show _ = _ from ((w_up_slot (by decide)).trans ((w_up_slot (by decide)).trans (((tr14.2.2.2.1 185 (-1) (by decide) (by decide) (by decide) (Or.inl (by decide))).trans ((cl_185 hC))))))]; omega) wl_185_15 ?_
                    refine wa_iload_n (n := 1) rfl ?_
                    refine wb_iald 201 rfl (wy_pr rfl) wt_201 (n := 400) ((w_up_slot (by decide)).trans ((w_up_slot (by decide)).trans (((tr14.2.2.2.1 201 (-1) (by decide) (by decide) (by decide) (Or.inl (by decide))).trans ((cl_201 hC)))))) (by omega) (by omega) (v := fl) ((w_up_slot (by decide)).trans ((w_up_slot (by decide)).trans (((tr14.2.2.2.1 201 m (by decide) (by decide) (by decide) (Or.inl (by decide))).trans (hmf))))) (fun r19 => ?_)
                    have hf2 : ∀ (j : Nat) (i : Int), j < 4000000 → j ≠ wG → j ≠ 152 → j ≠ 72 → j ≠ 158 → (w_up (w_up Sq14 158 16 0) 158 17 0) j i = S j i := fun j i a b c d e => (w_up_no (fun z => e z.1)).trans ((w_up_no (fun z => e z.1)).trans (tr14.2.2.2.1 j i a b c (Or.inl d)))
                    have el : (w_up (w_up Sq14 158 16 0) 158 17 0) 141 (-1) = S 141 (-1) := (hf2 141 _ (by first | decide | omega) (by first | decide | omega) (by first | decide | omega) (by first | decide | omega) (by first | decide | omega))
                    have el2 : (w_up (w_up Sq14 158 16 0) 158 17 0) 142 (-1) = S 142 (-1) := (hf2 142 _ (by first | decide | omega) (by first | decide | omega) (by first | decide | omega) (by first | decide | omega) (by first | decide | omega))
                    have el3 : (w_up (w_up Sq14 158 16 0) 158 17 0) 127 (-1) = S 127 (-1) := (hf2 127 _ (by first | decide | omega) (by first | decide | omega) (by first | decide | omega) (by first | decide | omega) (by first | decide | omega))
                    refine wa_cv 158 rfl (wy_pr rfl) wt_158 (M2 := fun _ => False) rfl at_XL_useField ⟨_, rfl⟩ rfl rfl ⟨trivial, trivial, trivial, (Or.inr ⟨wy_pr rfl, fun q => q⟩), (Or.inr ⟨wy_pr rfl, fun q => q⟩), trivial, trivial⟩ trivial (fun _ _ q => False.elim q) (usg0_162_215 (S := (w_up (w_up Sq14 158 16 0) 158 17 0)) (m := m) (f := fl) (w_CL_up (w_CL_up (CL_tr hC tr14) (by omega)) (by omega)) ((w_up_slot (by decide)).trans ((w_up_slot (by decide)).trans (((tr14.2.2.2.1 72 1 (by decide) (by decide) (by decide) (Or.inr (by decide))).trans (h72))))) ((w_up_at (by decide)).trans ((w_up_at (by decide)).trans (((tr14.2.2.2.1 158 5 (by decide) (by decide) (by decide) (Or.inl (by decide))).trans (l5))))) ((w_up_at (by decide)).trans ((w_up_at (by decide)).trans (((tr14.2.2.2.1 158 8 (by decide) (by decide) (by decide) (Or.inl (by decide))).trans (l8))))) (((w_up_at (by decide)).trans ((w_up_at (by decide)).trans ((tr14.2.2.2.1 158 10 (by decide) (by decide) (by decide) (Or.inl (by decide)))))).trans l10) hm hfl ((hf2 188 _ (by decide) (by decide) (by decide) (by decide) (by decide)).trans hstt) ((hf2 201 _ (by decide) (by decide) (by decide) (by decide) (by decide)).trans hfi) (fun x hx => by rw [hf2 (127 + x) (-1) (by omega) (by unfold wG; omega) (by omega) (by omega) (by omega), el3]; exact hth x hx) (by rw [el3]; exact hn2) (by rw [el, el2]; exact hl14) (by rw [el]; exact hz14) (by rw [el3]; exact hgb) ((hf2 133 _ (by decide) (by decide) (by decide) (by decide) (by decide)).trans hst) (by rw [el]; exact hrb) ((hf2 190 _ (by decide) (by decide) (by decide) (by decide) (by decide)).trans hmc) ((hf2 141 _ (by decide) (by decide) (by decide) (by decide) (by decide)).trans hvk) ((hf2 142 _ (by decide) (by decide) (by decide) (by decide) (by decide)).trans hvb)) (fun oq20 Sq20 hp21 q20 => ?_)
                    rcases q20 with ⟨rfl, rfl⟩
                    show wJ _ _ _ _ _ _ _ _ _ _
                    refine wa_goto ⟨_, rfl⟩ ?_
                    refine wa_aload_n (n := 0) rfl ?_
                    refine wb_gfi 158 rfl (wy_pr rfl) wt_158 wf_5_7 (v := kd) ((w_up_at (by decide)).trans ((w_up_at (by decide)).trans ((w_up_at (by decide)).trans ((w_up_at (by decide)).trans (((tr14.2.2.2.1 158 7 (by decide) (by decide) (by decide) (Or.inl (by decide))).trans (l7))))))) (fun r22 => ?_)
                    refine wa_iconst ?_
                    refine wa_icmpne (w_rg0 (by omega) (by omega)) (w_rg0 (by omega) (by omega)) ⟨_, rfl⟩ (fun c23 => ?_) (fun c23 => ?_)
                    · skip
                      refine wa_aload_n (n := 0) rfl ?_
                      refine wa_aload_n (n := 0) rfl ?_
                      refine wb_gfi 158 rfl (wy_pr rfl) wt_158 wf_5_16 (v := vk) ((w_up_at (by decide)).trans (w_up_same _ _ _ _)) (fun r24 => ?_)
                      refine wa_aload_n (n := 0) rfl ?_
                      refine wb_gfl 158 rfl (wy_pr rfl) wt_158 wf_5_17 (v := vb) (w_up_same _ _ _ _) (fun r25 => ?_)
                      refine wa_cv 158 rfl (wy_pr rfl) wt_158 (M2 := mS [217, 218]) rfl at_XL_giveValue ⟨_, rfl⟩ rfl rfl ⟨trivial, trivial, trivial, (Or.inr ⟨wy_pr rfl, mS_no rfl⟩), (Or.inr ⟨wy_pr rfl, mS_no rfl⟩), trivial, trivial⟩ trivial (fun _ _ q => mS_sub (by decide) q) (glx_215 (S := (w_up (w_up (w_up (w_up Sq14 158 16 0) 158 17 0) 158 16 vk) 158 17 vb)) (k := vk) (v := vb) (h := h) (c := c) (p := p) (ba := ba) (w_CL_up (w_CL_up (w_CL_up (w_CL_up (CL_tr hC tr14) (by omega)) (by omega)) (by omega)) (by omega)) (gI_up (gI_up (gI_up (gI_up tr14.2.2.2.2.2.1 (by omega) (by omega) (by omega)) (by omega) (by omega) (by omega)) (by omega) (by omega) (by omega)) (by omega) (by omega) (by omega)) ((w_up_at (by decide)).trans ((w_up_at (by decide)).trans ((w_up_at (by decide)).trans ((w_up_at (by decide)).trans (((tr14.2.2.2.1 158 4 (by decide) (by decide) (by decide) (Or.inl (by decide))).trans (l4))))))) ((w_up_at (by decide)).trans ((w_up_at (by decide)).trans ((w_up_at (by decide)).trans ((w_up_at (by decide)).trans (((tr14.2.2.2.1 158 5 (by decide) (by decide) (by decide) (Or.inl (by decide))).trans (l5))))))) ((w_up_at (by decide)).trans ((w_up_at (by decide)).trans ((w_up_at (by decide)).trans ((w_up_at (by decide)).trans (((tr14.2.2.2.1 158 8 (by decide) (by decide) (by decide) (Or.inl (by decide))).trans (l8))))))) ((w_up_slot (by decide)).trans ((w_up_slot (by decide)).trans ((w_up_slot (by decide)).trans ((w_up_slot (by decide)).trans (((tr14.2.2.2.1 215 4 (by decide) (by decide) (by decide) (Or.inl (by decide))).trans (bc))))))) ((w_up_slot (by decide)).trans ((w_up_slot (by decide)).trans ((w_up_slot (by decide)).trans ((w_up_slot (by decide)).trans (((tr14.2.2.2.1 220 (c - 1) (by decide) (by decide) (by decide) (Or.inl (by decide))).trans (bp))))))) ((((w_up_slot (by decide)).trans ((w_up_slot (by decide)).trans ((w_up_slot (by decide)).trans ((w_up_slot (by decide)).trans (((tr14.2.2.2.1 218 (-1) (by decide) (by decide) (by decide) (Or.inl (by decide))).trans (bl1)))))))).trans (((w_up_slot (by decide)).trans ((w_up_slot (by decide)).trans ((w_up_slot (by decide)).trans ((w_up_slot (by decide)).trans (((tr14.2.2.2.1 217 (-1) (by decide) (by decide) (by decide) (Or.inl (by decide))).trans (rfl)))))))).symm) (by have e : (w_up (w_up (w_up (w_up Sq14 158 16 0) 158 17 0) 158 16 vk) 158 17 vb) 217 (-1) = S 217 (-1) := ((w_up_slot (by decide)).trans ((w_up_slot (by decide)).trans ((w_up_slot (by decide)).trans ((w_up_slot (by decide)).trans (((tr14.2.2.2.1 217 (-1) (by decide) (by decide) (by decide) (Or.inl (by decide))).trans (rfl))))))); rw [e]; exact ⟨bl2, bl3⟩) (by have e : (w_up (w_up (w_up (w_up Sq14 158 16 0) 158 17 0) 158 16 vk) 158 17 vb) 217 (-1) = S 217 (-1) := ((w_up_slot (by decide)).trans ((w_up_slot (by decide)).trans ((w_up_slot (by decide)).trans ((w_up_slot (by decide)).trans (((tr14.2.2.2.1 217 (-1) (by decide) (by decide) (by decide) (Or.inl (by decide))).trans (rfl))))))); omega) ⟨by omega, by omega⟩ ⟨by omega, by omega⟩ ⟨by omega, by omega⟩ ⟨by omega, by omega⟩) (fun oq26 Sq26 hp27 q26 => ?_)
                      rcases q26 with ⟨rfl, hgv26⟩
                      show wJ _ _ _ _ _ _ _ _ _ _
                      refine wa_return rfl ?_
                      refine ⟨rfl, Or.inr ⟨by omega, Sq14, (w_up (w_up (w_up (w_up Sq14 158 16 0) 158 17 0) 158 16 vk) 158 17 vb), tr14, ?_, ?_⟩⟩
                      · exact fun j i hji => (w_up_no (by omega)).trans ((w_up_no (by omega)).trans ((w_up_no (by omega)).trans ((w_up_no (by omega)).trans (rfl))))
                      · first | (rw [if_pos (show kd = 1 by omega), if_pos (show kd = 1 by omega)]; exact hgv26) | (rw [if_neg (show ¬ kd = 1 by omega), if_neg (show ¬ kd = 1 by omega)]; exact hgv26)
                    · skip
                      refine wa_aload_n (n := 0) rfl ?_
                      refine wa_aload_n (n := 0) rfl ?_
                      refine wb_gf5 158 rfl (wy_pr rfl) wt_158 wf_5_5 (v := 216) ((w_up_at (by decide)).trans ((w_up_at (by decide)).trans ((w_up_at (by decide)).trans ((w_up_at (by decide)).trans (((tr14.2.2.2.1 158 5 (by decide) (by decide) (by decide) (Or.inl (by decide))).trans (l5))))))) (fun r28 => ?_)
                      refine wb_gf4 216 rfl (wy_pr rfl) wt_216 wf_7_0 (v := 217) wl_216_0 ?_
                      refine wa_aload_n (n := 0) rfl ?_
                      refine wb_gf5 158 rfl (wy_pr rfl) wt_158 wf_5_5 (v := 216) ((w_up_at (by decide)).trans ((w_up_at (by decide)).trans ((w_up_at (by decide)).trans ((w_up_at (by decide)).trans (((tr14.2.2.2.1 158 5 (by decide) (by decide) (by decide) (Or.inl (by decide))).trans (l5))))))) (fun r29 => ?_)
                      refine wb_gfi 216 rfl (wy_pr rfl) wt_216 wf_7_2 (v := h) ((w_up_slot (by decide)).trans ((w_up_slot (by decide)).trans ((w_up_slot (by decide)).trans ((w_up_slot (by decide)).trans (((tr14.2.2.2.1 216 2 (by decide) (by decide) (by decide) (Or.inl (by decide))).trans (bh))))))) (fun r30 => ?_)
                      refine wa_iconst ?_
                      refine wa_isub ?_
                      refine wb_bald 217 rfl (wy_pr rfl) wt_217 (n := (S 217 (-1))) ((w_up_slot (by decide)).trans ((w_up_slot (by decide)).trans ((w_up_slot (by decide)).trans ((w_up_slot (by decide)).trans (((tr14.2.2.2.1 217 (-1) (by decide) (by decide) (by decide) (Or.inl (by decide))).trans (rfl))))))) (by omega) (by omega) (v := ky) ((w_up_slot (by decide)).trans ((w_up_slot (by decide)).trans ((w_up_slot (by decide)).trans ((w_up_slot (by decide)).trans (((tr14.2.2.2.1 217 (h - 1) (by decide) (by decide) (by decide) (Or.inl (by decide))).trans (hky))))))) (fun r31 => ?_)
                      refine wb_pfi 158 rfl (wy_pr rfl) wt_158 wf_5_16 (n := 16) rfl ⟨(by omega), (by omega)⟩ ?_
                      refine wa_aload_n (n := 0) rfl ?_
                      refine wa_aload_n (n := 0) rfl ?_
                      refine wb_gf5 158 rfl (wy_pr rfl) wt_158 wf_5_5 (v := 216) ((w_up_at (by decide)).trans ((w_up_at (by decide)).trans ((w_up_at (by decide)).trans ((w_up_at (by decide)).trans ((w_up_at (by decide)).trans (((tr14.2.2.2.1 158 5 (by decide) (by decide) (by decide) (Or.inl (by decide))).trans (l5)))))))) (fun r32 => ?_)
                      refine wb_gf4 216 rfl (wy_pr rfl) wt_216 wf_7_1 (v := 218) wl_216_1 ?_
                      refine wa_aload_n (n := 0) rfl ?_
                      refine wb_gf5 158 rfl (wy_pr rfl) wt_158 wf_5_5 (v := 216) ((w_up_at (by decide)).trans ((w_up_at (by decide)).trans ((w_up_at (by decide)).trans ((w_up_at (by decide)).trans ((w_up_at (by decide)).trans (((tr14.2.2.2.1 158 5 (by decide) (by decide) (by decide) (Or.inl (by decide))).trans (l5)))))))) (fun r33 => ?_)
                      refine wb_gfi 216 rfl (wy_pr rfl) wt_216 wf_7_2 (v := h) ((w_up_slot (by decide)).trans ((w_up_slot (by decide)).trans ((w_up_slot (by decide)).trans ((w_up_slot (by decide)).trans ((w_up_slot (by decide)).trans (((tr14.2.2.2.1 216 2 (by decide) (by decide) (by decide) (Or.inl (by decide))).trans (bh)))))))) (fun r34 => ?_)
                      refine wa_iconst ?_
                      refine wa_isub ?_
                      refine wb_lald 218 rfl (wy_pr rfl) wt_218 (n := (S 217 (-1))) ((w_up_slot (by decide)).trans ((w_up_slot (by decide)).trans ((w_up_slot (by decide)).trans ((w_up_slot (by decide)).trans ((w_up_slot (by decide)).trans (((tr14.2.2.2.1 218 (-1) (by decide) (by decide) (by decide) (Or.inl (by decide))).trans (bl1)))))))) (by omega) (by omega) (v := vy) ((w_up_slot (by decide)).trans ((w_up_slot (by decide)).trans ((w_up_slot (by decide)).trans ((w_up_slot (by decide)).trans ((w_up_slot (by decide)).trans (((tr14.2.2.2.1 218 (h - 1) (by decide) (by decide) (by decide) (Or.inl (by decide))).trans (hvy)))))))) (fun r35 => ?_)
                      refine wb_pfl 158 rfl (wy_pr rfl) wt_158 wf_5_17 (n := 17) rfl ⟨(by omega), (by omega)⟩ ?_
                      refine wa_fall ⟨_, rfl⟩ ?_
                      refine wa_aload_n (n := 0) rfl ?_
                      refine wa_aload_n (n := 0) rfl ?_
                      refine wb_gfi 158 rfl (wy_pr rfl) wt_158 wf_5_16 (v := ky) ((w_up_at (by decide)).trans (w_up_same _ _ _ _)) (fun r36 => ?_)
                      refine wa_aload_n (n := 0) rfl ?_
                      refine wb_gfl 158 rfl (wy_pr rfl) wt_158 wf_5_17 (v := vy) (w_up_same _ _ _ _) (fun r37 => ?_)
                      refine wa_cv 158 rfl (wy_pr rfl) wt_158 (M2 := mS [217, 218]) rfl at_XL_giveValue ⟨_, rfl⟩ rfl rfl ⟨trivial, trivial, trivial, (Or.inr ⟨wy_pr rfl, mS_no rfl⟩), (Or.inr ⟨wy_pr rfl, mS_no rfl⟩), trivial, trivial⟩ trivial (fun _ _ q => mS_sub (by decide) q) (glx_215 (S := (w_up (w_up (w_up (w_up (w_up (w_up Sq14 158 16 0) 158 17 0) 158 16 vk) 158 17 vb) 158 16 ky) 158 17 vy)) (k := ky) (v := vy) (h := h) (c := c) (p := p) (ba := ba) (w_CL_up (w_CL_up (w_CL_up (w_CL_up (w_CL_up (w_CL_up (CL_tr hC tr14) (by omega)) (by omega)) (by omega)) (by omega)) (by omega)) (by omega)) (gI_up (gI_up (gI_up (gI_up (gI_up (gI_up tr14.2.2.2.2.2.1 (by omega) (by omega) (by omega)) (by omega) (by omega) (by omega)) (by omega) (by omega) (by omega)) (by omega) (by omega) (by omega)) (by omega) (by omega) (by omega)) (by omega) (by omega) (by omega)) ((w_up_at (by decide)).trans ((w_up_at (by decide)).trans ((w_up_at (by decide)).trans ((w_up_at (by decide)).trans ((w_up_at (by decide)).trans ((w_up_at (by decide)).trans (((tr14.2.2.2.1 158 4 (by decide) (by decide) (by decide) (Or.inl (by decide))).trans (l4))))))))) ((w_up_at (by decide)).trans ((w_up_at (by decide)).trans ((w_up_at (by decide)).trans ((w_up_at (by decide)).trans ((w_up_at (by decide)).trans ((w_up_at (by decide)).trans (((tr14.2.2.2.1 158 5 (by decide) (by decide) (by decide) (Or.inl (by decide))).trans (l5))))))))) ((w_up_at (by decide)).trans ((w_up_at (by decide)).trans ((w_up_at (by decide)).trans ((w_up_at (by decide)).trans ((w_up_at (by decide)).trans ((w_up_at (by decide)).trans (((tr14.2.2.2.1 158 8 (by decide) (by decide) (by decide) (Or.inl (by decide))).trans (l8))))))))) ((w_up_slot (by decide)).trans ((w_up_slot (by decide)).trans ((w_up_slot (by decide)).trans ((w_up_slot (by decide)).trans ((w_up_slot (by decide)).trans ((w_up_slot (by decide)).trans (((tr14.2.2.2.1 215 4 (by decide) (by decide) (by decide) (Or.inl (by decide))).trans (bc))))))))) ((w_up_slot (by decide)).trans ((w_up_slot (by decide)).trans ((w_up_slot (by decide)).trans ((w_up_slot (by decide)).trans ((w_up_slot (by decide)).trans ((w_up_slot (by decide)).trans (((tr14.2.2.2.1 220 (c - 1) (by decide) (by decide) (by decide) (Or.inl (by decide))).trans (bp))))))))) ((((w_up_slot (by decide)).trans ((w_up_slot (by decide)).trans ((w_up_slot (by decide)).trans ((w_up_slot (by decide)).trans ((w_up_slot (by decide)).trans ((w_up_slot (by decide)).trans (((tr14.2.2.2.1 218 (-1) (by decide) (by decide) (by decide) (Or.inl (by decide))).trans (bl1)))))))))).trans (((w_up_slot (by decide)).trans ((w_up_slot (by decide)).trans ((w_up_slot (by decide)).trans ((w_up_slot (by decide)).trans ((w_up_slot (by decide)).trans ((w_up_slot (by decide)).trans (((tr14.2.2.2.1 217 (-1) (by decide) (by decide) (by decide) (Or.inl (by decide))).trans (rfl)))))))))).symm) (by have e : (w_up (w_up (w_up (w_up (w_up (w_up Sq14 158 16 0) 158 17 0) 158 16 vk) 158 17 vb) 158 16 ky) 158 17 vy) 217 (-1) = S 217 (-1) := ((w_up_slot (by decide)).trans ((w_up_slot (by decide)).trans ((w_up_slot (by decide)).trans ((w_up_slot (by decide)).trans ((w_up_slot (by decide)).trans ((w_up_slot (by decide)).trans (((tr14.2.2.2.1 217 (-1) (by decide) (by decide) (by decide) (Or.inl (by decide))).trans (rfl))))))))); rw [e]; exact ⟨bl2, bl3⟩) (by have e : (w_up (w_up (w_up (w_up (w_up (w_up Sq14 158 16 0) 158 17 0) 158 16 vk) 158 17 vb) 158 16 ky) 158 17 vy) 217 (-1) = S 217 (-1) := ((w_up_slot (by decide)).trans ((w_up_slot (by decide)).trans ((w_up_slot (by decide)).trans ((w_up_slot (by decide)).trans ((w_up_slot (by decide)).trans ((w_up_slot (by decide)).trans (((tr14.2.2.2.1 217 (-1) (by decide) (by decide) (by decide) (Or.inl (by decide))).trans (rfl))))))))); omega) ⟨by omega, by omega⟩ ⟨by omega, by omega⟩ ⟨by omega, by omega⟩ ⟨by omega, by omega⟩) (fun oq38 Sq38 hp39 q38 => ?_)
                      rcases q38 with ⟨rfl, hgv38⟩
                      show wJ _ _ _ _ _ _ _ _ _ _
                      refine wa_return rfl ?_
                      refine ⟨rfl, Or.inr ⟨by omega, Sq14, (w_up (w_up (w_up (w_up (w_up (w_up Sq14 158 16 0) 158 17 0) 158 16 vk) 158 17 vb) 158 16 ky) 158 17 vy), tr14, ?_, ?_⟩⟩
                      · exact fun j i hji => (w_up_no (by omega)).trans ((w_up_no (by omega)).trans ((w_up_no (by omega)).trans ((w_up_no (by omega)).trans ((w_up_no (by omega)).trans ((w_up_no (by omega)).trans (rfl))))))
                      · first | (rw [if_pos (show kd = 1 by omega), if_pos (show kd = 1 by omega)]; exact hgv38) | (rw [if_neg (show ¬ kd = 1 by omega), if_neg (show ¬ kd = 1 by omega)]; exact hgv38)
                · skip
                  exact absurd c16 (by omega)
              · skip
                exact absurd c12 (by omega)
            · skip
              exact absurd c11 (by omega)
        · skip
          exact absurd c7 (by omega)
      · skip
        refine wa_aload_n (n := 2) rfl ?_
        refine wb_gf4 162 rfl (wy_pr rfl) wt_162 wf_3_3 (v := 185) wl_162_3 ?_
        refine wa_bipush (w_rg2 (by omega) (by omega)) ?_
        refine wb_aald5 185 15 rfl rfl (wy_pr rfl) wt_185 (by rw [show _ = _ from ((cl_185 hC))]; omega) wl_185_15 ?_
        refine wa_iload_n (n := 1) rfl ?_
        refine wb_iald 201 rfl (wy_pr rfl) wt_201 (n := 400) ((cl_201 hC)) (by omega) (by omega) (v := fl) (hmf) (fun r40 => ?_)
        refine wa_iconst ?_
        refine wa_icmpne (w_rg0 (by omega) (by omega)) (w_rg0 (by omega) (by omega)) ⟨_, rfl⟩ (fun c41 => ?_) (fun c41 => ?_)
        · skip
          refine wa_iconst ?_
          refine wa_fall ⟨_, rfl⟩ ?_
          refine wa_istore (n := 4) rfl ?_
          refine wa_iload_n (n := 3) rfl ?_
          refine wa_ifeq (w_rg0 (by omega) (by omega)) ⟨_, rfl⟩ (fun c42 => ?_) (fun c42 => ?_)
          · skip
            refine wa_iconst ?_
            refine wa_fall ⟨_, rfl⟩ ?_
            refine wa_istore (n := 5) rfl ?_
            refine wa_aload_n (n := 0) rfl ?_
            refine wb_gf4 158 rfl (wy_pr rfl) wt_158 wf_5_0 (v := 72) wl_158_0 ?_
            refine wb_gfi 72 rfl (wy_pr rfl) wt_72 wf_2_15 (v := tn) (ht15) (fun r43 => ?_)
            refine wa_iconst ?_
            refine wa_iadd ?_
            refine wb_ki (n := 100000) rfl ?_
            refine wa_icmpgt (w_rg0 (by omega) (by omega)) (w_rg0 (by omega) (by omega)) ⟨_, rfl⟩ (fun c44 => ?_) (fun c44 => ?_)
            · skip
              refine wa_aload_n (n := 0) rfl ?_
              refine wb_gf5 158 rfl (wy_pr rfl) wt_158 wf_5_4 (v := 215) (l4) (fun r45 => ?_)
              refine wa_bipush (w_rg2 (by omega) (by omega)) ?_
              refine wb_pfi 215 rfl (wy_pr rfl) wt_215 wf_8_16 (n := 16) rfl ⟨(by omega), (by omega)⟩ ?_
              refine wa_return rfl ?_
              exact ⟨rfl, Or.inl ⟨by omega, rfl⟩⟩
            · skip
              refine wa_iload_n (n := 3) rfl ?_
              refine wa_ifeq (w_rg0 (by omega) (by omega)) ⟨_, rfl⟩ (fun c46 => ?_) (fun c46 => ?_)
              · skip
                refine wa_iload (n := 4) rfl ?_
                refine wa_ifeq (w_rg0 (by omega) (by omega)) ⟨_, rfl⟩ (fun c47 => ?_) (fun c47 => ?_)
                · skip
                  refine wa_aload_n (n := 0) rfl ?_
                  refine wb_gf4 158 rfl (wy_pr rfl) wt_158 wf_5_0 (v := 72) wl_158_0 ?_
                  refine wa_iload_n (n := 1) rfl ?_
                  refine wa_aload_n (n := 0) rfl ?_
                  refine wb_gfi 158 rfl (wy_pr rfl) wt_158 wf_5_12 (v := en) (l12) (fun r48 => ?_)
                  refine wa_cv 72 rfl (wy_pr rfl) wt_72 (M2 := mS [152]) rfl at_XH_addTrace ⟨_, rfl⟩ rfl rfl ⟨trivial, trivial, trivial, (Or.inr ⟨wy_pr rfl, mS_no rfl⟩), (Or.inr ⟨wy_pr rfl, mS_no rfl⟩), trivial, trivial⟩ trivial (fun _ _ q => mS_sub (by decide) q) (tra (S := S) (m := m) (k := en) hI ⟨by omega, by omega⟩ ⟨by omega, by omega⟩ (by rw [ht15]; exact ht0) (by rw [ht15]; exact ht9)) (fun oq49 Sq49 hp50 q49 => ?_)
                  rcases q49 with ⟨rfl, tr49⟩
                  show wJ _ _ _ _ _ _ _ _ _ _
                  refine wa_aload_n (n := 0) rfl ?_
                  refine wa_iconst ?_
                  refine wb_pfi 158 rfl (wy_pr rfl) wt_158 wf_5_16 (n := 16) rfl ⟨(by omega), (by omega)⟩ ?_
                  refine wa_aload_n (n := 0) rfl ?_
                  refine wb_lconst (m := 0) rfl ?_
                  refine wb_pfl 158 rfl (wy_pr rfl) wt_158 wf_5_17 (n := 17) rfl ⟨(by omega), (by omega)⟩ ?_
                  refine wa_iload_n (n := 3) rfl ?_
                  refine wa_ifeq (w_rg0 (by omega) (by omega)) ⟨_, rfl⟩ (fun c51 => ?_) (fun c51 => ?_)
                  · skip
                    refine wa_aload_n (n := 2) rfl ?_
                    refine wb_gf4 162 rfl (wy_pr rfl) wt_162 wf_3_3 (v := 185) wl_162_3 ?_
                    refine wa_bipush (w_rg2 (by omega) (by omega)) ?_
                    refine wb_aald5 185 15 rfl rfl (wy_pr rfl) wt_185 (by rw [show _ = _ from ((w_up_slot (by decide)).trans ((w_up_slot (by decide)).trans (((tr49.2.2.2.1 185 (-1) (by decide) (by decide) (by decide) (Or.inl (by decide))).trans ((cl_185 hC))))))]; omega) wl_185_15 ?_
                    refine wa_iload_n (n := 1) rfl ?_
                    refine wb_iald 201 rfl (wy_pr rfl) wt_201 (n := 400) ((w_up_slot (by decide)).trans ((w_up_slot (by decide)).trans (((tr49.2.2.2.1 201 (-1) (by decide) (by decide) (by decide) (Or.inl (by decide))).trans ((cl_201 hC)))))) (by omega) (by omega) (v := fl) ((w_up_slot (by decide)).trans ((w_up_slot (by decide)).trans (((tr49.2.2.2.1 201 m (by decide) (by decide) (by decide) (Or.inl (by decide))).trans (hmf))))) (fun r52 => ?_)
                    refine wa_iconst ?_
                    refine wa_icmpeq (w_rg0 (by omega) (by omega)) (w_rg0 (by omega) (by omega)) ⟨_, rfl⟩ (fun c53 => ?_) (fun c53 => ?_)
                    · skip
                      exact absurd c53 (by omega)
                    · skip
                      refine wa_aload_n (n := 0) rfl ?_
                      refine wa_iload_n (n := 1) rfl ?_
                      refine wa_aload_n (n := 2) rfl ?_
                      refine wb_gf4 162 rfl (wy_pr rfl) wt_162 wf_3_3 (v := 185) wl_162_3 ?_
                      refine wa_bipush (w_rg2 (by omega) (by omega)) ?_
                      refine wb_aald5 185 15 rfl rfl (wy_pr rfl) wt_185 (by rw [show _ = _ from ((w_up_slot (by decide)).trans ((w_up_slot (by decide)).trans (((tr49.2.2.2.1 185 (-1) (by decide) (by decide) (by decide) (Or.inl (by decide))).trans ((cl_185 hC))))))]; omega) wl_185_15 ?_
                      refine wa_iload_n (n := 1) rfl ?_
                      refine wb_iald 201 rfl (wy_pr rfl) wt_201 (n := 400) ((w_up_slot (by decide)).trans ((w_up_slot (by decide)).trans (((tr49.2.2.2.1 201 (-1) (by decide) (by decide) (by decide) (Or.inl (by decide))).trans ((cl_201 hC)))))) (by omega) (by omega) (v := fl) ((w_up_slot (by decide)).trans ((w_up_slot (by decide)).trans (((tr49.2.2.2.1 201 m (by decide) (by decide) (by decide) (Or.inl (by decide))).trans (hmf))))) (fun r54 => ?_)
                      have hf2 : ∀ (j : Nat) (i : Int), j < 4000000 → j ≠ wG → j ≠ 152 → j ≠ 72 → j ≠ 158 → (w_up (w_up Sq49 158 16 0) 158 17 0) j i = S j i := fun j i a b c d e => (w_up_no (fun z => e z.1)).trans ((w_up_no (fun z => e z.1)).trans (tr49.2.2.2.1 j i a b c (Or.inl d)))
                      have el : (w_up (w_up Sq49 158 16 0) 158 17 0) 141 (-1) = S 141 (-1) := (hf2 141 _ (by first | decide | omega) (by first | decide | omega) (by first | decide | omega) (by first | decide | omega) (by first | decide | omega))
                      have el2 : (w_up (w_up Sq49 158 16 0) 158 17 0) 142 (-1) = S 142 (-1) := (hf2 142 _ (by first | decide | omega) (by first | decide | omega) (by first | decide | omega) (by first | decide | omega) (by first | decide | omega))
                      have el3 : (w_up (w_up Sq49 158 16 0) 158 17 0) 127 (-1) = S 127 (-1) := (hf2 127 _ (by first | decide | omega) (by first | decide | omega) (by first | decide | omega) (by first | decide | omega) (by first | decide | omega))
                      refine wa_cv 158 rfl (wy_pr rfl) wt_158 (M2 := fun _ => False) rfl at_XL_useField ⟨_, rfl⟩ rfl rfl ⟨trivial, trivial, trivial, (Or.inr ⟨wy_pr rfl, fun q => q⟩), (Or.inr ⟨wy_pr rfl, fun q => q⟩), trivial, trivial⟩ trivial (fun _ _ q => False.elim q) (usg0_162_215 (S := (w_up (w_up Sq49 158 16 0) 158 17 0)) (m := m) (f := fl) (w_CL_up (w_CL_up (CL_tr hC tr49) (by omega)) (by omega)) ((w_up_slot (by decide)).trans ((w_up_slot (by decide)).trans (((tr49.2.2.2.1 72 1 (by decide) (by decide) (by decide) (Or.inr (by decide))).trans (h72))))) ((w_up_at (by decide)).trans ((w_up_at (by decide)).trans (((tr49.2.2.2.1 158 5 (by decide) (by decide) (by decide) (Or.inl (by decide))).trans (l5))))) ((w_up_at (by decide)).trans ((w_up_at (by decide)).trans (((tr49.2.2.2.1 158 8 (by decide) (by decide) (by decide) (Or.inl (by decide))).trans (l8))))) (((w_up_at (by decide)).trans ((w_up_at (by decide)).trans ((tr49.2.2.2.1 158 10 (by decide) (by decide) (by decide) (Or.inl (by decide)))))).trans l10) hm hfl ((hf2 188 _ (by decide) (by decide) (by decide) (by decide) (by decide)).trans hstt) ((hf2 201 _ (by decide) (by decide) (by decide) (by decide) (by decide)).trans hfi) (fun x hx => by rw [hf2 (127 + x) (-1) (by omega) (by unfold wG; omega) (by omega) (by omega) (by omega), el3]; exact hth x hx) (by rw [el3]; exact hn2) (by rw [el, el2]; exact hl14) (by rw [el]; exact hz14) (by rw [el3]; exact hgb) ((hf2 133 _ (by decide) (by decide) (by decide) (by decide) (by decide)).trans hst) (by rw [el]; exact hrb) ((hf2 190 _ (by decide) (by decide) (by decide) (by decide) (by decide)).trans hmc) ((hf2 141 _ (by decide) (by decide) (by decide) (by decide) (by decide)).trans hvk) ((hf2 142 _ (by decide) (by decide) (by decide) (by decide) (by decide)).trans hvb)) (fun oq55 Sq55 hp56 q55 => ?_)
                      rcases q55 with ⟨rfl, rfl⟩
                      show wJ _ _ _ _ _ _ _ _ _ _
                      refine wa_goto ⟨_, rfl⟩ ?_
                      refine wa_aload_n (n := 0) rfl ?_
                      refine wb_gfi 158 rfl (wy_pr rfl) wt_158 wf_5_7 (v := kd) ((w_up_at (by decide)).trans ((w_up_at (by decide)).trans ((w_up_at (by decide)).trans ((w_up_at (by decide)).trans (((tr49.2.2.2.1 158 7 (by decide) (by decide) (by decide) (Or.inl (by decide))).trans (l7))))))) (fun r57 => ?_)
                      refine wa_iconst ?_
                      refine wa_icmpne (w_rg0 (by omega) (by omega)) (w_rg0 (by omega) (by omega)) ⟨_, rfl⟩ (fun c58 => ?_) (fun c58 => ?_)
                      · skip
                        refine wa_aload_n (n := 0) rfl ?_
                        refine wa_aload_n (n := 0) rfl ?_
                        refine wb_gfi 158 rfl (wy_pr rfl) wt_158 wf_5_16 (v := vk) ((w_up_at (by decide)).trans (w_up_same _ _ _ _)) (fun r59 => ?_)
                        refine wa_aload_n (n := 0) rfl ?_
                        refine wb_gfl 158 rfl (wy_pr rfl) wt_158 wf_5_17 (v := vb) (w_up_same _ _ _ _) (fun r60 => ?_)
                        refine wa_cv 158 rfl (wy_pr rfl) wt_158 (M2 := mS [217, 218]) rfl at_XL_giveValue ⟨_, rfl⟩ rfl rfl ⟨trivial, trivial, trivial, (Or.inr ⟨wy_pr rfl, mS_no rfl⟩), (Or.inr ⟨wy_pr rfl, mS_no rfl⟩), trivial, trivial⟩ trivial (fun _ _ q => mS_sub (by decide) q) (glx_215 (S := (w_up (w_up (w_up (w_up Sq49 158 16 0) 158 17 0) 158 16 vk) 158 17 vb)) (k := vk) (v := vb) (h := h) (c := c) (p := p) (ba := ba) (w_CL_up (w_CL_up (w_CL_up (w_CL_up (CL_tr hC tr49) (by omega)) (by omega)) (by omega)) (by omega)) (gI_up (gI_up (gI_up (gI_up tr49.2.2.2.2.2.1 (by omega) (by omega) (by omega)) (by omega) (by omega) (by omega)) (by omega) (by omega) (by omega)) (by omega) (by omega) (by omega)) ((w_up_at (by decide)).trans ((w_up_at (by decide)).trans ((w_up_at (by decide)).trans ((w_up_at (by decide)).trans (((tr49.2.2.2.1 158 4 (by decide) (by decide) (by decide) (Or.inl (by decide))).trans (l4))))))) ((w_up_at (by decide)).trans ((w_up_at (by decide)).trans ((w_up_at (by decide)).trans ((w_up_at (by decide)).trans (((tr49.2.2.2.1 158 5 (by decide) (by decide) (by decide) (Or.inl (by decide))).trans (l5))))))) ((w_up_at (by decide)).trans ((w_up_at (by decide)).trans ((w_up_at (by decide)).trans ((w_up_at (by decide)).trans (((tr49.2.2.2.1 158 8 (by decide) (by decide) (by decide) (Or.inl (by decide))).trans (l8))))))) ((w_up_slot (by decide)).trans ((w_up_slot (by decide)).trans ((w_up_slot (by decide)).trans ((w_up_slot (by decide)).trans (((tr49.2.2.2.1 215 4 (by decide) (by decide) (by decide) (Or.inl (by decide))).trans (bc))))))) ((w_up_slot (by decide)).trans ((w_up_slot (by decide)).trans ((w_up_slot (by decide)).trans ((w_up_slot (by decide)).trans (((tr49.2.2.2.1 220 (c - 1) (by decide) (by decide) (by decide) (Or.inl (by decide))).trans (bp))))))) ((((w_up_slot (by decide)).trans ((w_up_slot (by decide)).trans ((w_up_slot (by decide)).trans ((w_up_slot (by decide)).trans (((tr49.2.2.2.1 218 (-1) (by decide) (by decide) (by decide) (Or.inl (by decide))).trans (bl1)))))))).trans (((w_up_slot (by decide)).trans ((w_up_slot (by decide)).trans ((w_up_slot (by decide)).trans ((w_up_slot (by decide)).trans (((tr49.2.2.2.1 217 (-1) (by decide) (by decide) (by decide) (Or.inl (by decide))).trans (rfl)))))))).symm) (by have e : (w_up (w_up (w_up (w_up Sq49 158 16 0) 158 17 0) 158 16 vk) 158 17 vb) 217 (-1) = S 217 (-1) := ((w_up_slot (by decide)).trans ((w_up_slot (by decide)).trans ((w_up_slot (by decide)).trans ((w_up_slot (by decide)).trans (((tr49.2.2.2.1 217 (-1) (by decide) (by decide) (by decide) (Or.inl (by decide))).trans (rfl))))))); rw [e]; exact ⟨bl2, bl3⟩) (by have e : (w_up (w_up (w_up (w_up Sq49 158 16 0) 158 17 0) 158 16 vk) 158 17 vb) 217 (-1) = S 217 (-1) := ((w_up_slot (by decide)).trans ((w_up_slot (by decide)).trans ((w_up_slot (by decide)).trans ((w_up_slot (by decide)).trans (((tr49.2.2.2.1 217 (-1) (by decide) (by decide) (by decide) (Or.inl (by decide))).trans (rfl))))))); omega) ⟨by omega, by omega⟩ ⟨by omega, by omega⟩ ⟨by omega, by omega⟩ ⟨by omega, by omega⟩) (fun oq61 Sq61 hp62 q61 => ?_)
                        rcases q61 with ⟨rfl, hgv61⟩
                        show wJ _ _ _ _ _ _ _ _ _ _
                        refine wa_return rfl ?_
                        refine ⟨rfl, Or.inr ⟨by omega, Sq49, (w_up (w_up (w_up (w_up Sq49 158 16 0) 158 17 0) 158 16 vk) 158 17 vb), tr49, ?_, ?_⟩⟩
                        · exact fun j i hji => (w_up_no (by omega)).trans ((w_up_no (by omega)).trans ((w_up_no (by omega)).trans ((w_up_no (by omega)).trans (rfl))))
                        · first | (rw [if_pos (show kd = 1 by omega), if_pos (show kd = 1 by omega)]; exact hgv61) | (rw [if_neg (show ¬ kd = 1 by omega), if_neg (show ¬ kd = 1 by omega)]; exact hgv61)
                      · skip
                        refine wa_aload_n (n := 0) rfl ?_
                        refine wa_aload_n (n := 0) rfl ?_
                        refine wb_gf5 158 rfl (wy_pr rfl) wt_158 wf_5_5 (v := 216) ((w_up_at (by decide)).trans ((w_up_at (by decide)).trans ((w_up_at (by decide)).trans ((w_up_at (by decide)).trans (((tr49.2.2.2.1 158 5 (by decide) (by decide) (by decide) (Or.inl (by decide))).trans (l5))))))) (fun r63 => ?_)
                        refine wb_gf4 216 rfl (wy_pr rfl) wt_216 wf_7_0 (v := 217) wl_216_0 ?_
                        refine wa_aload_n (n := 0) rfl ?_
                        refine wb_gf5 158 rfl (wy_pr rfl) wt_158 wf_5_5 (v := 216) ((w_up_at (by decide)).trans ((w_up_at (by decide)).trans ((w_up_at (by decide)).trans ((w_up_at (by decide)).trans (((tr49.2.2.2.1 158 5 (by decide) (by decide) (by decide) (Or.inl (by decide))).trans (l5))))))) (fun r64 => ?_)
                        refine wb_gfi 216 rfl (wy_pr rfl) wt_216 wf_7_2 (v := h) ((w_up_slot (by decide)).trans ((w_up_slot (by decide)).trans ((w_up_slot (by decide)).trans ((w_up_slot (by decide)).trans (((tr49.2.2.2.1 216 2 (by decide) (by decide) (by decide) (Or.inl (by decide))).trans (bh))))))) (fun r65 => ?_)
                        refine wa_iconst ?_
                        refine wa_isub ?_
                        refine wb_bald 217 rfl (wy_pr rfl) wt_217 (n := (S 217 (-1))) ((w_up_slot (by decide)).trans ((w_up_slot (by decide)).trans ((w_up_slot (by decide)).trans ((w_up_slot (by decide)).trans (((tr49.2.2.2.1 217 (-1) (by decide) (by decide) (by decide) (Or.inl (by decide))).trans (rfl))))))) (by omega) (by omega) (v := ky) ((w_up_slot (by decide)).trans ((w_up_slot (by decide)).trans ((w_up_slot (by decide)).trans ((w_up_slot (by decide)).trans (((tr49.2.2.2.1 217 (h - 1) (by decide) (by decide) (by decide) (Or.inl (by decide))).trans (hky))))))) (fun r66 => ?_)
                        refine wb_pfi 158 rfl (wy_pr rfl) wt_158 wf_5_16 (n := 16) rfl ⟨(by omega), (by omega)⟩ ?_
                        refine wa_aload_n (n := 0) rfl ?_
                        refine wa_aload_n (n := 0) rfl ?_
                        refine wb_gf5 158 rfl (wy_pr rfl) wt_158 wf_5_5 (v := 216) ((w_up_at (by decide)).trans ((w_up_at (by decide)).trans ((w_up_at (by decide)).trans ((w_up_at (by decide)).trans ((w_up_at (by decide)).trans (((tr49.2.2.2.1 158 5 (by decide) (by decide) (by decide) (Or.inl (by decide))).trans (l5)))))))) (fun r67 => ?_)
                        refine wb_gf4 216 rfl (wy_pr rfl) wt_216 wf_7_1 (v := 218) wl_216_1 ?_
                        refine wa_aload_n (n := 0) rfl ?_
                        refine wb_gf5 158 rfl (wy_pr rfl) wt_158 wf_5_5 (v := 216) ((w_up_at (by decide)).trans ((w_up_at (by decide)).trans ((w_up_at (by decide)).trans ((w_up_at (by decide)).trans ((w_up_at (by decide)).trans (((tr49.2.2.2.1 158 5 (by decide) (by decide) (by decide) (Or.inl (by decide))).trans (l5)))))))) (fun r68 => ?_)
                        refine wb_gfi 216 rfl (wy_pr rfl) wt_216 wf_7_2 (v := h) ((w_up_slot (by decide)).trans ((w_up_slot (by decide)).trans ((w_up_slot (by decide)).trans ((w_up_slot (by decide)).trans ((w_up_slot (by decide)).trans (((tr49.2.2.2.1 216 2 (by decide) (by decide) (by decide) (Or.inl (by decide))).trans (bh)))))))) (fun r69 => ?_)
                        refine wa_iconst ?_
                        refine wa_isub ?_
                        refine wb_lald 218 rfl (wy_pr rfl) wt_218 (n := (S 217 (-1))) ((w_up_slot (by decide)).trans ((w_up_slot (by decide)).trans ((w_up_slot (by decide)).trans ((w_up_slot (by decide)).trans ((w_up_slot (by decide)).trans (((tr49.2.2.2.1 218 (-1) (by decide) (by decide) (by decide) (Or.inl (by decide))).trans (bl1)))))))) (by omega) (by omega) (v := vy) ((w_up_slot (by decide)).trans ((w_up_slot (by decide)).trans ((w_up_slot (by decide)).trans ((w_up_slot (by decide)).trans ((w_up_slot (by decide)).trans (((tr49.2.2.2.1 218 (h - 1) (by decide) (by decide) (by decide) (Or.inl (by decide))).trans (hvy)))))))) (fun r70 => ?_)
                        refine wb_pfl 158 rfl (wy_pr rfl) wt_158 wf_5_17 (n := 17) rfl ⟨(by omega), (by omega)⟩ ?_
                        refine wa_fall ⟨_, rfl⟩ ?_
                        refine wa_aload_n (n := 0) rfl ?_
                        refine wa_aload_n (n := 0) rfl ?_
                        refine wb_gfi 158 rfl (wy_pr rfl) wt_158 wf_5_16 (v := ky) ((w_up_at (by decide)).trans (w_up_same _ _ _ _)) (fun r71 => ?_)
                        refine wa_aload_n (n := 0) rfl ?_
                        refine wb_gfl 158 rfl (wy_pr rfl) wt_158 wf_5_17 (v := vy) (w_up_same _ _ _ _) (fun r72 => ?_)
                        refine wa_cv 158 rfl (wy_pr rfl) wt_158 (M2 := mS [217, 218]) rfl at_XL_giveValue ⟨_, rfl⟩ rfl rfl ⟨trivial, trivial, trivial, (Or.inr ⟨wy_pr rfl, mS_no rfl⟩), (Or.inr ⟨wy_pr rfl, mS_no rfl⟩), trivial, trivial⟩ trivial (fun _ _ q => mS_sub (by decide) q) (glx_215 (S := (w_up (w_up (w_up (w_up (w_up (w_up Sq49 158 16 0) 158 17 0) 158 16 vk) 158 17 vb) 158 16 ky) 158 17 vy)) (k := ky) (v := vy) (h := h) (c := c) (p := p) (ba := ba) (w_CL_up (w_CL_up (w_CL_up (w_CL_up (w_CL_up (w_CL_up (CL_tr hC tr49) (by omega)) (by omega)) (by omega)) (by omega)) (by omega)) (by omega)) (gI_up (gI_up (gI_up (gI_up (gI_up (gI_up tr49.2.2.2.2.2.1 (by omega) (by omega) (by omega)) (by omega) (by omega) (by omega)) (by omega) (by omega) (by omega)) (by omega) (by omega) (by omega)) (by omega) (by omega) (by omega)) (by omega) (by omega) (by omega)) ((w_up_at (by decide)).trans ((w_up_at (by decide)).trans ((w_up_at (by decide)).trans ((w_up_at (by decide)).trans ((w_up_at (by decide)).trans ((w_up_at (by decide)).trans (((tr49.2.2.2.1 158 4 (by decide) (by decide) (by decide) (Or.inl (by decide))).trans (l4))))))))) ((w_up_at (by decide)).trans ((w_up_at (by decide)).trans ((w_up_at (by decide)).trans ((w_up_at (by decide)).trans ((w_up_at (by decide)).trans ((w_up_at (by decide)).trans (((tr49.2.2.2.1 158 5 (by decide) (by decide) (by decide) (Or.inl (by decide))).trans (l5))))))))) ((w_up_at (by decide)).trans ((w_up_at (by decide)).trans ((w_up_at (by decide)).trans ((w_up_at (by decide)).trans ((w_up_at (by decide)).trans ((w_up_at (by decide)).trans (((tr49.2.2.2.1 158 8 (by decide) (by decide) (by decide) (Or.inl (by decide))).trans (l8))))))))) ((w_up_slot (by decide)).trans ((w_up_slot (by decide)).trans ((w_up_slot (by decide)).trans ((w_up_slot (by decide)).trans ((w_up_slot (by decide)).trans ((w_up_slot (by decide)).trans (((tr49.2.2.2.1 215 4 (by decide) (by decide) (by decide) (Or.inl (by decide))).trans (bc))))))))) ((w_up_slot (by decide)).trans ((w_up_slot (by decide)).trans ((w_up_slot (by decide)).trans ((w_up_slot (by decide)).trans ((w_up_slot (by decide)).trans ((w_up_slot (by decide)).trans (((tr49.2.2.2.1 220 (c - 1) (by decide) (by decide) (by decide) (Or.inl (by decide))).trans (bp))))))))) ((((w_up_slot (by decide)).trans ((w_up_slot (by decide)).trans ((w_up_slot (by decide)).trans ((w_up_slot (by decide)).trans ((w_up_slot (by decide)).trans ((w_up_slot (by decide)).trans (((tr49.2.2.2.1 218 (-1) (by decide) (by decide) (by decide) (Or.inl (by decide))).trans (bl1)))))))))).trans (((w_up_slot (by decide)).trans ((w_up_slot (by decide)).trans ((w_up_slot (by decide)).trans ((w_up_slot (by decide)).trans ((w_up_slot (by decide)).trans ((w_up_slot (by decide)).trans (((tr49.2.2.2.1 217 (-1) (by decide) (by decide) (by decide) (Or.inl (by decide))).trans (rfl)))))))))).symm) (by have e : (w_up (w_up (w_up (w_up (w_up (w_up Sq49 158 16 0) 158 17 0) 158 16 vk) 158 17 vb) 158 16 ky) 158 17 vy) 217 (-1) = S 217 (-1) := ((w_up_slot (by decide)).trans ((w_up_slot (by decide)).trans ((w_up_slot (by decide)).trans ((w_up_slot (by decide)).trans ((w_up_slot (by decide)).trans ((w_up_slot (by decide)).trans (((tr49.2.2.2.1 217 (-1) (by decide) (by decide) (by decide) (Or.inl (by decide))).trans (rfl))))))))); rw [e]; exact ⟨bl2, bl3⟩) (by have e : (w_up (w_up (w_up (w_up (w_up (w_up Sq49 158 16 0) 158 17 0) 158 16 vk) 158 17 vb) 158 16 ky) 158 17 vy) 217 (-1) = S 217 (-1) := ((w_up_slot (by decide)).trans ((w_up_slot (by decide)).trans ((w_up_slot (by decide)).trans ((w_up_slot (by decide)).trans ((w_up_slot (by decide)).trans ((w_up_slot (by decide)).trans (((tr49.2.2.2.1 217 (-1) (by decide) (by decide) (by decide) (Or.inl (by decide))).trans (rfl))))))))); omega) ⟨by omega, by omega⟩ ⟨by omega, by omega⟩ ⟨by omega, by omega⟩ ⟨by omega, by omega⟩) (fun oq73 Sq73 hp74 q73 => ?_)
                        rcases q73 with ⟨rfl, hgv73⟩
                        show wJ _ _ _ _ _ _ _ _ _ _
                        refine wa_return rfl ?_
                        refine ⟨rfl, Or.inr ⟨by omega, Sq49, (w_up (w_up (w_up (w_up (w_up (w_up Sq49 158 16 0) 158 17 0) 158 16 vk) 158 17 vb) 158 16 ky) 158 17 vy), tr49, ?_, ?_⟩⟩
                        · exact fun j i hji => (w_up_no (by omega)).trans ((w_up_no (by omega)).trans ((w_up_no (by omega)).trans ((w_up_no (by omega)).trans ((w_up_no (by omega)).trans ((w_up_no (by omega)).trans (rfl))))))
                        · first | (rw [if_pos (show kd = 1 by omega), if_pos (show kd = 1 by omega)]; exact hgv73) | (rw [if_neg (show ¬ kd = 1 by omega), if_neg (show ¬ kd = 1 by omega)]; exact hgv73)
                  · skip
                    exact absurd c51 (by omega)
                · skip
                  exact absurd c47 (by omega)
              · skip
                exact absurd c46 (by omega)
          · skip
            exact absurd c42 (by omega)
        · skip
          exact absurd c41 (by omega)
  · skip
    exact absurd c3 (by omega)
set_option maxHeartbeats 4000000 in
theorem cms0_162_215 {c p h kd ba m en tn ky vy fl fi gb ty st k1 v1 : Int} (hP : xP 215 c p h S) (l4 : S 158 4 = 215) (l5 : S 158 5 = 216) (l7 : S 158 7 = kd) (l8 : S 158 8 = ba) (l12 : S 158 12 = en) (hen : 0 ≤ en ∧ en ≤ 1000) (hba : 0 ≤ ba ∧ ba < h) (h72 : S 72 1 = 162) (hm : 0 ≤ m ∧ m < 400) (hso : S 187 m = 1) (ht15 : S 72 15 = tn) (ht0 : 0 ≤ tn ∧ tn ≤ S 152 (-1) ∧ tn ≤ 100000) (ht9 : 16 ≤ S 152 (-1) ∧ S 152 (-1) ≤ 131072 ∨ (16 ≤ S 152 (-1) ∧ S 152 (-1) ≤ 262143 ∧ tn + 2 ≤ S 152 (-1))) (hky : S 217 (h - 1) = ky) (hvy : S 218 (h - 1) = vy) (hkr : -128 ≤ ky ∧ ky ≤ 127) (hvr : -9223372036854775808 ≤ vy ∧ vy ≤ 9223372036854775807) (hmf : S 201 m = fl) (hfl : 0 ≤ fl ∧ fl < 400) (hstt : S 188 fl = 0) (hfi : S 201 fl = fi) (l10 : S 158 10 = gb) (hmt : S 189 m = ty) (hmc : S 190 m = 1) (hth : ∀ x : Nat, x < 10 → S (127 + x) (-1) = S 127 (-1)) (hn2 : S 127 (-1) ≤ 16383) (hl14 : S 142 (-1) = S 141 (-1)) (hz14 : 16 ≤ S 141 (-1) ∧ S 141 (-1) ≤ 480400) (hgb : 0 ≤ gb ∧ gb < S 127 (-1)) (hst : S 133 gb = st) (hrb : 0 ≤ st ∧ 0 ≤ fi ∧ fi ≤ 1000 ∧ st + fi < S 141 (-1)) (hb1 : ba + 1 < h) (hk1 : S 217 (ba + 1) = k1) (hv1 : S 218 (ba + 1) = v1) : wJ (pe_GA xs) wY0 (mS [217, 218, 152]) (d + 6) t_XL_callMember ((pe_at t_XL_callMember.bl 0).getD (0, [])).2 [(0, (2, 158)), (1, (0, m))] [] S (fun o Z => o = .inl none ∧ ((100000 < tn + 2 ∧ w_up S 215 16 99 = Z) ∨ (¬ (100000 < tn + 2) ∧ cmE 215 h c p (h - ba) kd ky vy 0 0 m en (fun A B => gvR (w_up (w_up A 141 (st + fi) k1) 142 (st + fi) v1) B) S Z))) := by
  obtain ⟨⟨hC, hI⟩, ⟨bc, bc0, bc1⟩, ⟨bp, bp0, bp1⟩, ⟨bh, bh0, bh1, bh2⟩, bl1, bl2, bl3⟩ := hP
  replace bp : S 220 (c - 1) = p := bp
  replace bh : S 216 2 = h := bh
  replace bh2 : h ≤ S 217 (-1) := bh2
  replace bl1 : S 218 (-1) = S 217 (-1) := bl1
  replace bl2 : 64 ≤ S 217 (-1) := bl2
  replace bl3 : S 217 (-1) ≤ 4095 := bl3
  refine wa_aload_n (n := 0) rfl ?_
  refine wb_gf4 158 rfl (wy_pr rfl) wt_158 wf_5_0 (v := 72) wl_158_0 ?_
  refine wb_gf5 72 rfl (wy_pr rfl) wt_72 wf_2_1 (v := 162) (h72) (fun r1 => ?_)
  refine wa_astore_n (n := 2) rfl ?_
  refine wa_aload_n (n := 2) rfl ?_
  refine wb_gf4 162 rfl (wy_pr rfl) wt_162 wf_3_3 (v := 185) wl_162_3 ?_
  refine wa_iconst ?_
  refine wb_aald5 185 1 rfl rfl (wy_pr rfl) wt_185 (by rw [show _ = _ from ((cl_185 hC))]; omega) wl_185_1 ?_
  refine wa_iload_n (n := 1) rfl ?_
  refine wb_iald 187 rfl (wy_pr rfl) wt_187 (n := 400) ((cl_187 hC)) (by omega) (by omega) (v := 1) (hso) (fun r2 => ?_)
  refine wa_iconst ?_
  refine wa_icmpne (w_rg0 (by omega) (by omega)) (w_rg0 (by omega) (by omega)) ⟨_, rfl⟩ (fun c3 => ?_) (fun c3 => ?_)
  · skip
    refine wa_iconst ?_
    refine wa_fall ⟨_, rfl⟩ ?_
    refine wa_istore_n (n := 3) rfl ?_
    refine wa_iload_n (n := 3) rfl ?_
    refine wa_ifne (w_rg0 (by omega) (by omega)) ⟨_, rfl⟩ (fun c4 => ?_) (fun c4 => ?_)
    · skip
      exact absurd c4 (by omega)
    · skip
      refine wa_aload_n (n := 2) rfl ?_
      refine wb_gf4 162 rfl (wy_pr rfl) wt_162 wf_3_3 (v := 185) wl_162_3 ?_
      refine wa_iconst ?_
      refine wb_aald5 185 3 rfl rfl (wy_pr rfl) wt_185 (by rw [show _ = _ from ((cl_185 hC))]; omega) wl_185_3 ?_
      refine wa_iload_n (n := 1) rfl ?_
      refine wb_iald 189 rfl (wy_pr rfl) wt_189 (n := 400) ((cl_189 hC)) (by omega) (by omega) (v := ty) (hmt) (fun r5 => ?_)
      refine wa_bipush (w_rg2 (by omega) (by omega)) ?_
      refine wa_icmpne (w_rg0 (by omega) (by omega)) (w_rg0 (by omega) (by omega)) ⟨_, rfl⟩ (fun c6 => ?_) (fun c6 => ?_)
      · skip
        refine wa_iconst ?_
        refine wa_fall ⟨_, rfl⟩ ?_
        refine wa_istore (n := 4) rfl ?_
        refine wa_iload_n (n := 3) rfl ?_
        refine wa_ifeq (w_rg0 (by omega) (by omega)) ⟨_, rfl⟩ (fun c7 => ?_) (fun c7 => ?_)
        · skip
          refine wa_iconst ?_
          refine wa_fall ⟨_, rfl⟩ ?_
          refine wa_istore (n := 5) rfl ?_
          refine wa_aload_n (n := 0) rfl ?_
          refine wb_gf4 158 rfl (wy_pr rfl) wt_158 wf_5_0 (v := 72) wl_158_0 ?_
          refine wb_gfi 72 rfl (wy_pr rfl) wt_72 wf_2_15 (v := tn) (ht15) (fun r8 => ?_)
          refine wa_iconst ?_
          refine wa_iadd ?_
          refine wb_ki (n := 100000) rfl ?_
          refine wa_icmpgt (w_rg0 (by omega) (by omega)) (w_rg0 (by omega) (by omega)) ⟨_, rfl⟩ (fun c9 => ?_) (fun c9 => ?_)
          · skip
            refine wa_aload_n (n := 0) rfl ?_
            refine wb_gf5 158 rfl (wy_pr rfl) wt_158 wf_5_4 (v := 215) (l4) (fun r10 => ?_)
            refine wa_bipush (w_rg2 (by omega) (by omega)) ?_
            refine wb_pfi 215 rfl (wy_pr rfl) wt_215 wf_8_16 (n := 16) rfl ⟨(by omega), (by omega)⟩ ?_
            refine wa_return rfl ?_
            exact ⟨rfl, Or.inl ⟨by omega, rfl⟩⟩
          · skip
            refine wa_iload_n (n := 3) rfl ?_
            refine wa_ifeq (w_rg0 (by omega) (by omega)) ⟨_, rfl⟩ (fun c11 => ?_) (fun c11 => ?_)
            · skip
              refine wa_iload (n := 4) rfl ?_
              refine wa_ifeq (w_rg0 (by omega) (by omega)) ⟨_, rfl⟩ (fun c12 => ?_) (fun c12 => ?_)
              · skip
                refine wa_aload_n (n := 0) rfl ?_
                refine wb_gf4 158 rfl (wy_pr rfl) wt_158 wf_5_0 (v := 72) wl_158_0 ?_
                refine wa_iload_n (n := 1) rfl ?_
                refine wa_aload_n (n := 0) rfl ?_
                refine wb_gfi 158 rfl (wy_pr rfl) wt_158 wf_5_12 (v := en) (l12) (fun r13 => ?_)
                refine wa_cv 72 rfl (wy_pr rfl) wt_72 (M2 := mS [152]) rfl at_XH_addTrace ⟨_, rfl⟩ rfl rfl ⟨trivial, trivial, trivial, (Or.inr ⟨wy_pr rfl, mS_no rfl⟩), (Or.inr ⟨wy_pr rfl, mS_no rfl⟩), trivial, trivial⟩ trivial (fun _ _ q => mS_sub (by decide) q) (tra (S := S) (m := m) (k := en) hI ⟨by omega, by omega⟩ ⟨by omega, by omega⟩ (by rw [ht15]; exact ht0) (by rw [ht15]; exact ht9)) (fun oq14 Sq14 hp15 q14 => ?_)
                rcases q14 with ⟨rfl, tr14⟩
                show wJ _ _ _ _ _ _ _ _ _ _
                refine wa_aload_n (n := 0) rfl ?_
                refine wa_iconst ?_
                refine wb_pfi 158 rfl (wy_pr rfl) wt_158 wf_5_16 (n := 16) rfl ⟨(by omega), (by omega)⟩ ?_
                refine wa_aload_n (n := 0) rfl ?_
                refine wb_lconst (m := 0) rfl ?_
                refine wb_pfl 158 rfl (wy_pr rfl) wt_158 wf_5_17 (n := 17) rfl ⟨(by omega), (by omega)⟩ ?_
                refine wa_iload_n (n := 3) rfl ?_
                refine wa_ifeq (w_rg0 (by omega) (by omega)) ⟨_, rfl⟩ (fun c16 => ?_) (fun c16 => ?_)
                · skip
                  refine wa_aload_n (n := 2) rfl ?_
                  refine wb_gf4 162 rfl (wy_pr rfl) wt_162 wf_3_3 (v := 185) wl_162_3 ?_
                  refine wa_bipush (w_rg2 (by omega) (by omega)) ?_
                  refine wb_aald5 185 15 rfl rfl (wy_pr rfl) wt_185 (by rw [show _ = _ from ((w_up_slot (by decide)).trans ((w_up_slot (by decide)).trans (((tr14.2.2.2.1 185 (-1) (by decide) (by decide) (by decide) (Or.inl (by decide))).trans ((cl_185 hC))))))]; omega) wl_185_15 ?_
                  refine wa_iload_n (n := 1) rfl ?_
                  refine wb_iald 201 rfl (wy_pr rfl) wt_201 (n := 400) ((w_up_slot (by decide)).trans ((w_up_slot (by decide)).trans (((tr14.2.2.2.1 201 (-1) (by decide) (by decide) (by decide) (Or.inl (by decide))).trans ((cl_201 hC)))))) (by omega) (by omega) (v := fl) ((w_up_slot (by decide)).trans ((w_up_slot (by decide)).trans (((tr14.2.2.2.1 201 m (by decide) (by decide) (by decide) (Or.inl (by decide))).trans (hmf))))) (fun r17 => ?_)
                  refine wa_iconst ?_
                  refine wa_icmpeq (w_rg0 (by omega) (by omega)) (w_rg0 (by omega) (by omega)) ⟨_, rfl⟩ (fun c18 => ?_) (fun c18 => ?_)
                  · skip
                    exact absurd c18 (by omega)
                  · skip
                    refine wa_aload_n (n := 0) rfl ?_
                    refine wa_iload_n (n := 1) rfl ?_
                    refine wa_aload_n (n := 2) rfl ?_
                    refine wb_gf4 162 rfl (wy_pr rfl) wt_162 wf_3_3 (v := 185) wl_162_3 ?_
                    refine wa_bipush (w_rg2 (by omega) (by omega)) ?_
                    refine wb_aald5 185 15 rfl rfl (wy_pr rfl) wt_185 (by rw [show _ = _ from ((w_up_slot (by decide)).trans ((w_up_slot (by decide)).trans (((tr14.2.2.2.1 185 (-1) (by decide) (by decide) (by decide) (Or.inl (by decide))).trans ((cl_185 hC))))))]; omega) wl_185_15 ?_
                    refine wa_iload_n (n := 1) rfl ?_
                    refine wb_iald 201 rfl (wy_pr rfl) wt_201 (n := 400) ((w_up_slot (by decide)).trans ((w_up_slot (by decide)).trans (((tr14.2.2.2.1 201 (-1) (by decide) (by decide) (by decide) (Or.inl (by decide))).trans ((cl_201 hC)))))) (by omega) (by omega) (v := fl) ((w_up_slot (by decide)).trans ((w_up_slot (by decide)).trans (((tr14.2.2.2.1 201 m (by decide) (by decide) (by decide) (Or.inl (by decide))).trans (hmf))))) (fun r19 => ?_)
                    have hf2 : ∀ (j : Nat) (i : Int), j < 4000000 → j ≠ wG → j ≠ 152 → j ≠ 72 → j ≠ 158 → (w_up (w_up Sq14 158 16 0) 158 17 0) j i = S j i := fun j i a b c d e => (w_up_no (fun z => e z.1)).trans ((w_up_no (fun z => e z.1)).trans (tr14.2.2.2.1 j i a b c (Or.inl d)))
                    have el : (w_up (w_up Sq14 158 16 0) 158 17 0) 141 (-1) = S 141 (-1) := (hf2 141 _ (by first | decide | omega) (by first | decide | omega) (by first | decide | omega) (by first | decide | omega) (by first | decide | omega))
                    have el2 : (w_up (w_up Sq14 158 16 0) 158 17 0) 142 (-1) = S 142 (-1) := (hf2 142 _ (by first | decide | omega) (by first | decide | omega) (by first | decide | omega) (by first | decide | omega) (by first | decide | omega))
                    have el3 : (w_up (w_up Sq14 158 16 0) 158 17 0) 127 (-1) = S 127 (-1) := (hf2 127 _ (by first | decide | omega) (by first | decide | omega) (by first | decide | omega) (by first | decide | omega) (by first | decide | omega))
                    have el8 : (w_up (w_up Sq14 158 16 0) 158 17 0) 217 (-1) = S 217 (-1) := (hf2 217 _ (by first | decide | omega) (by first | decide | omega) (by first | decide | omega) (by first | decide | omega) (by first | decide | omega))
                    have el9 : (w_up (w_up Sq14 158 16 0) 158 17 0) 218 (-1) = S 218 (-1) := (hf2 218 _ (by first | decide | omega) (by first | decide | omega) (by first | decide | omega) (by first | decide | omega) (by first | decide | omega))
                    refine wa_cv 158 rfl (wy_pr rfl) wt_158 (M2 := fun _ => False) rfl at_XL_useField ⟨_, rfl⟩ rfl rfl ⟨trivial, trivial, trivial, (Or.inr ⟨wy_pr rfl, fun q => q⟩), (Or.inr ⟨wy_pr rfl, fun q => q⟩), trivial, trivial⟩ trivial (fun _ _ q => False.elim q) (uss0_162_215 (S := (w_up (w_up Sq14 158 16 0) 158 17 0)) (m := m) (f := fl) (w_CL_up (w_CL_up (CL_tr hC tr14) (by omega)) (by omega)) ((w_up_slot (by decide)).trans ((w_up_slot (by decide)).trans (((tr14.2.2.2.1 72 1 (by decide) (by decide) (by decide) (Or.inr (by decide))).trans (h72))))) ((w_up_at (by decide)).trans ((w_up_at (by decide)).trans (((tr14.2.2.2.1 158 5 (by decide) (by decide) (by decide) (Or.inl (by decide))).trans (l5))))) ((w_up_at (by decide)).trans ((w_up_at (by decide)).trans (((tr14.2.2.2.1 158 8 (by decide) (by decide) (by decide) (Or.inl (by decide))).trans (l8))))) (((w_up_at (by decide)).trans ((w_up_at (by decide)).trans ((tr14.2.2.2.1 158 10 (by decide) (by decide) (by decide) (Or.inl (by decide)))))).trans l10) hm hfl ((hf2 188 _ (by decide) (by decide) (by decide) (by decide) (by decide)).trans hstt) ((hf2 201 _ (by decide) (by decide) (by decide) (by decide) (by decide)).trans hfi) (fun x hx => by rw [hf2 (127 + x) (-1) (by omega) (by unfold wG; omega) (by omega) (by omega) (by omega), el3]; exact hth x hx) (by rw [el3]; exact hn2) (by rw [el, el2]; exact hl14) (by rw [el]; exact hz14) (by rw [el3]; exact hgb) ((hf2 133 _ (by decide) (by decide) (by decide) (by decide) (by decide)).trans hst) (by rw [el]; exact hrb) ((hf2 190 _ (by decide) (by decide) (by decide) (by decide) (by decide)).trans hmc) (by rw [el8, el9]; exact bl1) (by rw [el8]; exact ⟨by omega, by omega, bl3⟩) ((hf2 217 _ (by decide) (by decide) (by decide) (by decide) (by decide)).trans hk1) ((hf2 218 _ (by decide) (by decide) (by decide) (by decide) (by decide)).trans hv1)) (fun oq20 Sq20 hp21 q20 => ?_)
                    rcases q20 with ⟨rfl, rfl⟩
                    show wJ _ _ _ _ _ _ _ _ _ _
                    refine wa_goto ⟨_, rfl⟩ ?_
                    refine wa_aload_n (n := 0) rfl ?_
                    refine wb_gfi 158 rfl (wy_pr rfl) wt_158 wf_5_7 (v := kd) ((w_up_slot (by decide)).trans ((w_up_slot (by decide)).trans ((w_up_at (by decide)).trans ((w_up_at (by decide)).trans (((tr14.2.2.2.1 158 7 (by decide) (by decide) (by decide) (Or.inl (by decide))).trans (l7))))))) (fun r22 => ?_)
                    refine wa_iconst ?_
                    refine wa_icmpne (w_rg0 (by omega) (by omega)) (w_rg0 (by omega) (by omega)) ⟨_, rfl⟩ (fun c23 => ?_) (fun c23 => ?_)
                    · skip
                      refine wa_aload_n (n := 0) rfl ?_
                      refine wa_aload_n (n := 0) rfl ?_
                      refine wb_gfi 158 rfl (wy_pr rfl) wt_158 wf_5_16 (v := 0) ((w_up_slot (by decide)).trans ((w_up_slot (by decide)).trans ((w_up_at (by decide)).trans (w_up_same _ _ _ _)))) (fun r24 => ?_)
                      refine wa_aload_n (n := 0) rfl ?_
                      refine wb_gfl 158 rfl (wy_pr rfl) wt_158 wf_5_17 (v := 0) ((w_up_slot (by decide)).trans ((w_up_slot (by decide)).trans (w_up_same _ _ _ _))) (fun r25 => ?_)
                      refine wa_cv 158 rfl (wy_pr rfl) wt_158 (M2 := mS [217, 218]) rfl at_XL_giveValue ⟨_, rfl⟩ rfl rfl ⟨trivial, trivial, trivial, (Or.inr ⟨wy_pr rfl, mS_no rfl⟩), (Or.inr ⟨wy_pr rfl, mS_no rfl⟩), trivial, trivial⟩ trivial (fun _ _ q => mS_sub (by decide) q) (glx_215 (S := (w_up (w_up (w_up (w_up Sq14 158 16 0) 158 17 0) 141 (st + fi) k1) 142 (st + fi) v1)) (k := 0) (v := 0) (h := h) (c := c) (p := p) (ba := ba) (w_CL_up (w_CL_up (w_CL_up (w_CL_up (CL_tr hC tr14) (by omega)) (by omega)) (by omega)) (by omega)) (gI_up (gI_up (gI_up (gI_up tr14.2.2.2.2.2.1 (by omega) (by omega) (by omega)) (by omega) (by omega) (by omega)) (by omega) (by omega) (by omega)) (by omega) (by omega) (by omega)) ((w_up_slot (by decide)).trans ((w_up_slot (by decide)).trans ((w_up_at (by decide)).trans ((w_up_at (by decide)).trans (((tr14.2.2.2.1 158 4 (by decide) (by decide) (by decide) (Or.inl (by decide))).trans (l4))))))) ((w_up_slot (by decide)).trans ((w_up_slot (by decide)).trans ((w_up_at (by decide)).trans ((w_up_at (by decide)).trans (((tr14.2.2.2.1 158 5 (by decide) (by decide) (by decide) (Or.inl (by decide))).trans (l5))))))) ((w_up_slot (by decide)).trans ((w_up_slot (by decide)).trans ((w_up_at (by decide)).trans ((w_up_at (by decide)).trans (((tr14.2.2.2.1 158 8 (by decide) (by decide) (by decide) (Or.inl (by decide))).trans (l8))))))) ((w_up_slot (by decide)).trans ((w_up_slot (by decide)).trans ((w_up_slot (by decide)).trans ((w_up_slot (by decide)).trans (((tr14.2.2.2.1 215 4 (by decide) (by decide) (by decide) (Or.inl (by decide))).trans (bc))))))) ((w_up_slot (by decide)).trans ((w_up_slot (by decide)).trans ((w_up_slot (by decide)).trans ((w_up_slot (by decide)).trans (((tr14.2.2.2.1 220 (c - 1) (by decide) (by decide) (by decide) (Or.inl (by decide))).trans (bp))))))) ((((w_up_slot (by decide)).trans ((w_up_slot (by decide)).trans ((w_up_slot (by decide)).trans ((w_up_slot (by decide)).trans (((tr14.2.2.2.1 218 (-1) (by decide) (by decide) (by decide) (Or.inl (by decide))).trans (bl1)))))))).trans (((w_up_slot (by decide)).trans ((w_up_slot (by decide)).trans ((w_up_slot (by decide)).trans ((w_up_slot (by decide)).trans (((tr14.2.2.2.1 217 (-1) (by decide) (by decide) (by decide) (Or.inl (by decide))).trans (rfl)))))))).symm) (by have e : (w_up (w_up (w_up (w_up Sq14 158 16 0) 158 17 0) 141 (st + fi) k1) 142 (st + fi) v1) 217 (-1) = S 217 (-1) := ((w_up_slot (by decide)).trans ((w_up_slot (by decide)).trans ((w_up_slot (by decide)).trans ((w_up_slot (by decide)).trans (((tr14.2.2.2.1 217 (-1) (by decide) (by decide) (by decide) (Or.inl (by decide))).trans (rfl))))))); rw [e]; exact ⟨bl2, bl3⟩) (by have e : (w_up (w_up (w_up (w_up Sq14 158 16 0) 158 17 0) 141 (st + fi) k1) 142 (st + fi) v1) 217 (-1) = S 217 (-1) := ((w_up_slot (by decide)).trans ((w_up_slot (by decide)).trans ((w_up_slot (by decide)).trans ((w_up_slot (by decide)).trans (((tr14.2.2.2.1 217 (-1) (by decide) (by decide) (by decide) (Or.inl (by decide))).trans (rfl))))))); omega) ⟨by omega, by omega⟩ ⟨by omega, by omega⟩ ⟨by omega, by omega⟩ ⟨by omega, by omega⟩) (fun oq26 Sq26 hp27 q26 => ?_)
                      rcases q26 with ⟨rfl, hgv26⟩
                      show wJ _ _ _ _ _ _ _ _ _ _
                      refine wa_return rfl ?_
                      refine ⟨rfl, Or.inr ⟨by omega, Sq14, (w_up (w_up (w_up (w_up Sq14 158 16 0) 158 17 0) 141 (st + fi) k1) 142 (st + fi) v1), tr14, ?_, ?_⟩⟩
                      · exact fun j i hji => w_up_cg2 (w_up_cg2 ((w_up_no (by omega)).trans (w_up_no (by omega))))
                      · first | (rw [if_pos (show kd = 1 by omega), if_pos (show kd = 1 by omega)]; exact hgv26) | (rw [if_neg (show ¬ kd = 1 by omega), if_neg (show ¬ kd = 1 by omega)]; exact hgv26)
                    · skip
                      refine wa_aload_n (n := 0) rfl ?_
                      refine wa_aload_n (n := 0) rfl ?_
                      refine wb_gf5 158 rfl (wy_pr rfl) wt_158 wf_5_5 (v := 216) ((w_up_slot (by decide)).trans ((w_up_slot (by decide)).trans ((w_up_at (by decide)).trans ((w_up_at (by decide)).trans (((tr14.2.2.2.1 158 5 (by decide) (by decide) (by decide) (Or.inl (by decide))).trans (l5))))))) (fun r28 => ?_)
                      refine wb_gf4 216 rfl (wy_pr rfl) wt_216 wf_7_0 (v := 217) wl_216_0 ?_
                      refine wa_aload_n (n := 0) rfl ?_
                      refine wb_gf5 158 rfl (wy_pr rfl) wt_158 wf_5_5 (v := 216) ((w_up_slot (by decide)).trans ((w_up_slot (by decide)).trans ((w_up_at (by decide)).trans ((w_up_at (by decide)).trans (((tr14.2.2.2.1 158 5 (by decide) (by decide) (by decide) (Or.inl (by decide))).trans (l5))))))) (fun r29 => ?_)
                      refine wb_gfi 216 rfl (wy_pr rfl) wt_216 wf_7_2 (v := h) ((w_up_slot (by decide)).trans ((w_up_slot (by decide)).trans ((w_up_slot (by decide)).trans ((w_up_slot (by decide)).trans (((tr14.2.2.2.1 216 2 (by decide) (by decide) (by decide) (Or.inl (by decide))).trans (bh))))))) (fun r30 => ?_)
                      refine wa_iconst ?_
                      refine wa_isub ?_
                      refine wb_bald 217 rfl (wy_pr rfl) wt_217 (n := (S 217 (-1))) ((w_up_slot (by decide)).trans ((w_up_slot (by decide)).trans ((w_up_slot (by decide)).trans ((w_up_slot (by decide)).trans (((tr14.2.2.2.1 217 (-1) (by decide) (by decide) (by decide) (Or.inl (by decide))).trans (rfl))))))) (by omega) (by omega) (v := ky) ((w_up_slot (by decide)).trans ((w_up_slot (by decide)).trans ((w_up_slot (by decide)).trans ((w_up_slot (by decide)).trans (((tr14.2.2.2.1 217 (h - 1) (by decide) (by decide) (by decide) (Or.inl (by decide))).trans (hky))))))) (fun r31 => ?_)
                      refine wb_pfi 158 rfl (wy_pr rfl) wt_158 wf_5_16 (n := 16) rfl ⟨(by omega), (by omega)⟩ ?_
                      refine wa_aload_n (n := 0) rfl ?_
                      refine wa_aload_n (n := 0) rfl ?_
                      refine wb_gf5 158 rfl (wy_pr rfl) wt_158 wf_5_5 (v := 216) ((w_up_at (by decide)).trans ((w_up_slot (by decide)).trans ((w_up_slot (by decide)).trans ((w_up_at (by decide)).trans ((w_up_at (by decide)).trans (((tr14.2.2.2.1 158 5 (by decide) (by decide) (by decide) (Or.inl (by decide))).trans (l5)))))))) (fun r32 => ?_)
                      refine wb_gf4 216 rfl (wy_pr rfl) wt_216 wf_7_1 (v := 218) wl_216_1 ?_
                      refine wa_aload_n (n := 0) rfl ?_
                      refine wb_gf5 158 rfl (wy_pr rfl) wt_158 wf_5_5 (v := 216) ((w_up_at (by decide)).trans ((w_up_slot (by decide)).trans ((w_up_slot (by decide)).trans ((w_up_at (by decide)).trans ((w_up_at (by decide)).trans (((tr14.2.2.2.1 158 5 (by decide) (by decide) (by decide) (Or.inl (by decide))).trans (l5)))))))) (fun r33 => ?_)
                      refine wb_gfi 216 rfl (wy_pr rfl) wt_216 wf_7_2 (v := h) ((w_up_slot (by decide)).trans ((w_up_slot (by decide)).trans ((w_up_slot (by decide)).trans ((w_up_slot (by decide)).trans ((w_up_slot (by decide)).trans (((tr14.2.2.2.1 216 2 (by decide) (by decide) (by decide) (Or.inl (by decide))).trans (bh)))))))) (fun r34 => ?_)
                      refine wa_iconst ?_
                      refine wa_isub ?_
                      refine wb_lald 218 rfl (wy_pr rfl) wt_218 (n := (S 217 (-1))) ((w_up_slot (by decide)).trans ((w_up_slot (by decide)).trans ((w_up_slot (by decide)).trans ((w_up_slot (by decide)).trans ((w_up_slot (by decide)).trans (((tr14.2.2.2.1 218 (-1) (by decide) (by decide) (by decide) (Or.inl (by decide))).trans (bl1)))))))) (by omega) (by omega) (v := vy) ((w_up_slot (by decide)).trans ((w_up_slot (by decide)).trans ((w_up_slot (by decide)).trans ((w_up_slot (by decide)).trans ((w_up_slot (by decide)).trans (((tr14.2.2.2.1 218 (h - 1) (by decide) (by decide) (by decide) (Or.inl (by decide))).trans (hvy)))))))) (fun r35 => ?_)
                      refine wb_pfl 158 rfl (wy_pr rfl) wt_158 wf_5_17 (n := 17) rfl ⟨(by omega), (by omega)⟩ ?_
                      refine wa_fall ⟨_, rfl⟩ ?_
                      refine wa_aload_n (n := 0) rfl ?_
                      refine wa_aload_n (n := 0) rfl ?_
                      refine wb_gfi 158 rfl (wy_pr rfl) wt_158 wf_5_16 (v := ky) ((w_up_at (by decide)).trans (w_up_same _ _ _ _)) (fun r36 => ?_)
                      refine wa_aload_n (n := 0) rfl ?_
                      refine wb_gfl 158 rfl (wy_pr rfl) wt_158 wf_5_17 (v := vy) (w_up_same _ _ _ _) (fun r37 => ?_)
                      refine wa_cv 158 rfl (wy_pr rfl) wt_158 (M2 := mS [217, 218]) rfl at_XL_giveValue ⟨_, rfl⟩ rfl rfl ⟨trivial, trivial, trivial, (Or.inr ⟨wy_pr rfl, mS_no rfl⟩), (Or.inr ⟨wy_pr rfl, mS_no rfl⟩), trivial, trivial⟩ trivial (fun _ _ q => mS_sub (by decide) q) (glx_215 (S := (w_up (w_up (w_up (w_up (w_up (w_up Sq14 158 16 0) 158 17 0) 141 (st + fi) k1) 142 (st + fi) v1) 158 16 ky) 158 17 vy)) (k := ky) (v := vy) (h := h) (c := c) (p := p) (ba := ba) (w_CL_up (w_CL_up (w_CL_up (w_CL_up (w_CL_up (w_CL_up (CL_tr hC tr14) (by omega)) (by omega)) (by omega)) (by omega)) (by omega)) (by omega)) (gI_up (gI_up (gI_up (gI_up (gI_up (gI_up tr14.2.2.2.2.2.1 (by omega) (by omega) (by omega)) (by omega) (by omega) (by omega)) (by omega) (by omega) (by omega)) (by omega) (by omega) (by omega)) (by omega) (by omega) (by omega)) (by omega) (by omega) (by omega)) ((w_up_at (by decide)).trans ((w_up_at (by decide)).trans ((w_up_slot (by decide)).trans ((w_up_slot (by decide)).trans ((w_up_at (by decide)).trans ((w_up_at (by decide)).trans (((tr14.2.2.2.1 158 4 (by decide) (by decide) (by decide) (Or.inl (by decide))).trans (l4))))))))) ((w_up_at (by decide)).trans ((w_up_at (by decide)).trans ((w_up_slot (by decide)).trans ((w_up_slot (by decide)).trans ((w_up_at (by decide)).trans ((w_up_at (by decide)).trans (((tr14.2.2.2.1 158 5 (by decide) (by decide) (by decide) (Or.inl (by decide))).trans (l5))))))))) ((w_up_at (by decide)).trans ((w_up_at (by decide)).trans ((w_up_slot (by decide)).trans ((w_up_slot (by decide)).trans ((w_up_at (by decide)).trans ((w_up_at (by decide)).trans (((tr14.2.2.2.1 158 8 (by decide) (by decide) (by decide) (Or.inl (by decide))).trans (l8))))))))) ((w_up_slot (by decide)).trans ((w_up_slot (by decide)).trans ((w_up_slot (by decide)).trans ((w_up_slot (by decide)).trans ((w_up_slot (by decide)).trans ((w_up_slot (by decide)).trans (((tr14.2.2.2.1 215 4 (by decide) (by decide) (by decide) (Or.inl (by decide))).trans (bc))))))))) ((w_up_slot (by decide)).trans ((w_up_slot (by decide)).trans ((w_up_slot (by decide)).trans ((w_up_slot (by decide)).trans ((w_up_slot (by decide)).trans ((w_up_slot (by decide)).trans (((tr14.2.2.2.1 220 (c - 1) (by decide) (by decide) (by decide) (Or.inl (by decide))).trans (bp))))))))) ((((w_up_slot (by decide)).trans ((w_up_slot (by decide)).trans ((w_up_slot (by decide)).trans ((w_up_slot (by decide)).trans ((w_up_slot (by decide)).trans ((w_up_slot (by decide)).trans (((tr14.2.2.2.1 218 (-1) (by decide) (by decide) (by decide) (Or.inl (by decide))).trans (bl1)))))))))).trans (((w_up_slot (by decide)).trans ((w_up_slot (by decide)).trans ((w_up_slot (by decide)).trans ((w_up_slot (by decide)).trans ((w_up_slot (by decide)).trans ((w_up_slot (by decide)).trans (((tr14.2.2.2.1 217 (-1) (by decide) (by decide) (by decide) (Or.inl (by decide))).trans (rfl)))))))))).symm) (by have e : (w_up (w_up (w_up (w_up (w_up (w_up Sq14 158 16 0) 158 17 0) 141 (st + fi) k1) 142 (st + fi) v1) 158 16 ky) 158 17 vy) 217 (-1) = S 217 (-1) := ((w_up_slot (by decide)).trans ((w_up_slot (by decide)).trans ((w_up_slot (by decide)).trans ((w_up_slot (by decide)).trans ((w_up_slot (by decide)).trans ((w_up_slot (by decide)).trans (((tr14.2.2.2.1 217 (-1) (by decide) (by decide) (by decide) (Or.inl (by decide))).trans (rfl))))))))); rw [e]; exact ⟨bl2, bl3⟩) (by have e : (w_up (w_up (w_up (w_up (w_up (w_up Sq14 158 16 0) 158 17 0) 141 (st + fi) k1) 142 (st + fi) v1) 158 16 ky) 158 17 vy) 217 (-1) = S 217 (-1) := ((w_up_slot (by decide)).trans ((w_up_slot (by decide)).trans ((w_up_slot (by decide)).trans ((w_up_slot (by decide)).trans ((w_up_slot (by decide)).trans ((w_up_slot (by decide)).trans (((tr14.2.2.2.1 217 (-1) (by decide) (by decide) (by decide) (Or.inl (by decide))).trans (rfl))))))))); omega) ⟨by omega, by omega⟩ ⟨by omega, by omega⟩ ⟨by omega, by omega⟩ ⟨by omega, by omega⟩) (fun oq38 Sq38 hp39 q38 => ?_)
                      rcases q38 with ⟨rfl, hgv38⟩
                      show wJ _ _ _ _ _ _ _ _ _ _
                      refine wa_return rfl ?_
                      refine ⟨rfl, Or.inr ⟨by omega, Sq14, (w_up (w_up (w_up (w_up (w_up (w_up Sq14 158 16 0) 158 17 0) 141 (st + fi) k1) 142 (st + fi) v1) 158 16 ky) 158 17 vy), tr14, ?_, ?_⟩⟩
                      · exact fun j i hji => (w_up_no (by omega)).trans ((w_up_no (by omega)).trans (w_up_cg2 (w_up_cg2 ((w_up_no (by omega)).trans (w_up_no (by omega))))))
                      · first | (rw [if_pos (show kd = 1 by omega), if_pos (show kd = 1 by omega)]; exact hgv38) | (rw [if_neg (show ¬ kd = 1 by omega), if_neg (show ¬ kd = 1 by omega)]; exact hgv38)
                · skip
                  exact absurd c16 (by omega)
              · skip
                exact absurd c12 (by omega)
            · skip
              exact absurd c11 (by omega)
        · skip
          exact absurd c7 (by omega)
      · skip
        refine wa_aload_n (n := 2) rfl ?_
        refine wb_gf4 162 rfl (wy_pr rfl) wt_162 wf_3_3 (v := 185) wl_162_3 ?_
        refine wa_bipush (w_rg2 (by omega) (by omega)) ?_
        refine wb_aald5 185 15 rfl rfl (wy_pr rfl) wt_185 (by rw [show _ = _ from ((cl_185 hC))]; omega) wl_185_15 ?_
        refine wa_iload_n (n := 1) rfl ?_
        refine wb_iald 201 rfl (wy_pr rfl) wt_201 (n := 400) ((cl_201 hC)) (by omega) (by omega) (v := fl) (hmf) (fun r40 => ?_)
        refine wa_iconst ?_
        refine wa_icmpne (w_rg0 (by omega) (by omega)) (w_rg0 (by omega) (by omega)) ⟨_, rfl⟩ (fun c41 => ?_) (fun c41 => ?_)
        · skip
          refine wa_iconst ?_
          refine wa_fall ⟨_, rfl⟩ ?_
          refine wa_istore (n := 4) rfl ?_
          refine wa_iload_n (n := 3) rfl ?_
          refine wa_ifeq (w_rg0 (by omega) (by omega)) ⟨_, rfl⟩ (fun c42 => ?_) (fun c42 => ?_)
          · skip
            refine wa_iconst ?_
            refine wa_fall ⟨_, rfl⟩ ?_
            refine wa_istore (n := 5) rfl ?_
            refine wa_aload_n (n := 0) rfl ?_
            refine wb_gf4 158 rfl (wy_pr rfl) wt_158 wf_5_0 (v := 72) wl_158_0 ?_
            refine wb_gfi 72 rfl (wy_pr rfl) wt_72 wf_2_15 (v := tn) (ht15) (fun r43 => ?_)
            refine wa_iconst ?_
            refine wa_iadd ?_
            refine wb_ki (n := 100000) rfl ?_
            refine wa_icmpgt (w_rg0 (by omega) (by omega)) (w_rg0 (by omega) (by omega)) ⟨_, rfl⟩ (fun c44 => ?_) (fun c44 => ?_)
            · skip
              refine wa_aload_n (n := 0) rfl ?_
              refine wb_gf5 158 rfl (wy_pr rfl) wt_158 wf_5_4 (v := 215) (l4) (fun r45 => ?_)
              refine wa_bipush (w_rg2 (by omega) (by omega)) ?_
              refine wb_pfi 215 rfl (wy_pr rfl) wt_215 wf_8_16 (n := 16) rfl ⟨(by omega), (by omega)⟩ ?_
              refine wa_return rfl ?_
              exact ⟨rfl, Or.inl ⟨by omega, rfl⟩⟩
            · skip
              refine wa_iload_n (n := 3) rfl ?_
              refine wa_ifeq (w_rg0 (by omega) (by omega)) ⟨_, rfl⟩ (fun c46 => ?_) (fun c46 => ?_)
              · skip
                refine wa_iload (n := 4) rfl ?_
                refine wa_ifeq (w_rg0 (by omega) (by omega)) ⟨_, rfl⟩ (fun c47 => ?_) (fun c47 => ?_)
                · skip
                  refine wa_aload_n (n := 0) rfl ?_
                  refine wb_gf4 158 rfl (wy_pr rfl) wt_158 wf_5_0 (v := 72) wl_158_0 ?_
                  refine wa_iload_n (n := 1) rfl ?_
                  refine wa_aload_n (n := 0) rfl ?_
                  refine wb_gfi 158 rfl (wy_pr rfl) wt_158 wf_5_12 (v := en) (l12) (fun r48 => ?_)
                  refine wa_cv 72 rfl (wy_pr rfl) wt_72 (M2 := mS [152]) rfl at_XH_addTrace ⟨_, rfl⟩ rfl rfl ⟨trivial, trivial, trivial, (Or.inr ⟨wy_pr rfl, mS_no rfl⟩), (Or.inr ⟨wy_pr rfl, mS_no rfl⟩), trivial, trivial⟩ trivial (fun _ _ q => mS_sub (by decide) q) (tra (S := S) (m := m) (k := en) hI ⟨by omega, by omega⟩ ⟨by omega, by omega⟩ (by rw [ht15]; exact ht0) (by rw [ht15]; exact ht9)) (fun oq49 Sq49 hp50 q49 => ?_)
                  rcases q49 with ⟨rfl, tr49⟩
                  show wJ _ _ _ _ _ _ _ _ _ _
                  refine wa_aload_n (n := 0) rfl ?_
                  refine wa_iconst ?_
                  refine wb_pfi 158 rfl (wy_pr rfl) wt_158 wf_5_16 (n := 16) rfl ⟨(by omega), (by omega)⟩ ?_
                  refine wa_aload_n (n := 0) rfl ?_
                  refine wb_lconst (m := 0) rfl ?_
                  refine wb_pfl 158 rfl (wy_pr rfl) wt_158 wf_5_17 (n := 17) rfl ⟨(by omega), (by omega)⟩ ?_
                  refine wa_iload_n (n := 3) rfl ?_
                  refine wa_ifeq (w_rg0 (by omega) (by omega)) ⟨_, rfl⟩ (fun c51 => ?_) (fun c51 => ?_)
                  · skip
                    refine wa_aload_n (n := 2) rfl ?_
                    refine wb_gf4 162 rfl (wy_pr rfl) wt_162 wf_3_3 (v := 185) wl_162_3 ?_
                    refine wa_bipush (w_rg2 (by omega) (by omega)) ?_
                    refine wb_aald5 185 15 rfl rfl (wy_pr rfl) wt_185 (by rw [show _ = _ from ((w_up_slot (by decide)).trans ((w_up_slot (by decide)).trans (((tr49.2.2.2.1 185 (-1) (by decide) (by decide) (by decide) (Or.inl (by decide))).trans ((cl_185 hC))))))]; omega) wl_185_15 ?_
                    refine wa_iload_n (n := 1) rfl ?_
                    refine wb_iald 201 rfl (wy_pr rfl) wt_201 (n := 400) ((w_up_slot (by decide)).trans ((w_up_slot (by decide)).trans (((tr49.2.2.2.1 201 (-1) (by decide) (by decide) (by decide) (Or.inl (by decide))).trans ((cl_201 hC)))))) (by omega) (by omega) (v := fl) ((w_up_slot (by decide)).trans ((w_up_slot (by decide)).trans (((tr49.2.2.2.1 201 m (by decide) (by decide) (by decide) (Or.inl (by decide))).trans (hmf))))) (fun r52 => ?_)
                    refine wa_iconst ?_
                    refine wa_icmpeq (w_rg0 (by omega) (by omega)) (w_rg0 (by omega) (by omega)) ⟨_, rfl⟩ (fun c53 => ?_) (fun c53 => ?_)
                    · skip
                      exact absurd c53 (by omega)
                    · skip
                      refine wa_aload_n (n := 0) rfl ?_
                      refine wa_iload_n (n := 1) rfl ?_
                      refine wa_aload_n (n := 2) rfl ?_
                      refine wb_gf4 162 rfl (wy_pr rfl) wt_162 wf_3_3 (v := 185) wl_162_3 ?_
                      refine wa_bipush (w_rg2 (by omega) (by omega)) ?_
                      refine wb_aald5 185 15 rfl rfl (wy_pr rfl) wt_185 (by rw [show _ = _ from ((w_up_slot (by decide)).trans ((w_up_slot (by decide)).trans (((tr49.2.2.2.1 185 (-1) (by decide) (by decide) (by decide) (Or.inl (by decide))).trans ((cl_185 hC))))))]; omega) wl_185_15 ?_
                      refine wa_iload_n (n := 1) rfl ?_
                      refine wb_iald 201 rfl (wy_pr rfl) wt_201 (n := 400) ((w_up_slot (by decide)).trans ((w_up_slot (by decide)).trans (((tr49.2.2.2.1 201 (-1) (by decide) (by decide) (by decide) (Or.inl (by decide))).trans ((cl_201 hC)))))) (by omega) (by omega) (v := fl) ((w_up_slot (by decide)).trans ((w_up_slot (by decide)).trans (((tr49.2.2.2.1 201 m (by decide) (by decide) (by decide) (Or.inl (by decide))).trans (hmf))))) (fun r54 => ?_)
                      have hf2 : ∀ (j : Nat) (i : Int), j < 4000000 → j ≠ wG → j ≠ 152 → j ≠ 72 → j ≠ 158 → (w_up (w_up Sq49 158 16 0) 158 17 0) j i = S j i := fun j i a b c d e => (w_up_no (fun z => e z.1)).trans ((w_up_no (fun z => e z.1)).trans (tr49.2.2.2.1 j i a b c (Or.inl d)))
                      have el : (w_up (w_up Sq49 158 16 0) 158 17 0) 141 (-1) = S 141 (-1) := (hf2 141 _ (by first | decide | omega) (by first | decide | omega) (by first | decide | omega) (by first | decide | omega) (by first | decide | omega))
                      have el2 : (w_up (w_up Sq49 158 16 0) 158 17 0) 142 (-1) = S 142 (-1) := (hf2 142 _ (by first | decide | omega) (by first | decide | omega) (by first | decide | omega) (by first | decide | omega) (by first | decide | omega))
                      have el3 : (w_up (w_up Sq49 158 16 0) 158 17 0) 127 (-1) = S 127 (-1) := (hf2 127 _ (by first | decide | omega) (by first | decide | omega) (by first | decide | omega) (by first | decide | omega) (by first | decide | omega))
                      have el8 : (w_up (w_up Sq49 158 16 0) 158 17 0) 217 (-1) = S 217 (-1) := (hf2 217 _ (by first | decide | omega) (by first | decide | omega) (by first | decide | omega) (by first | decide | omega) (by first | decide | omega))
                      have el9 : (w_up (w_up Sq49 158 16 0) 158 17 0) 218 (-1) = S 218 (-1) := (hf2 218 _ (by first | decide | omega) (by first | decide | omega) (by first | decide | omega) (by first | decide | omega) (by first | decide | omega))
                      refine wa_cv 158 rfl (wy_pr rfl) wt_158 (M2 := fun _ => False) rfl at_XL_useField ⟨_, rfl⟩ rfl rfl ⟨trivial, trivial, trivial, (Or.inr ⟨wy_pr rfl, fun q => q⟩), (Or.inr ⟨wy_pr rfl, fun q => q⟩), trivial, trivial⟩ trivial (fun _ _ q => False.elim q) (uss0_162_215 (S := (w_up (w_up Sq49 158 16 0) 158 17 0)) (m := m) (f := fl) (w_CL_up (w_CL_up (CL_tr hC tr49) (by omega)) (by omega)) ((w_up_slot (by decide)).trans ((w_up_slot (by decide)).trans (((tr49.2.2.2.1 72 1 (by decide) (by decide) (by decide) (Or.inr (by decide))).trans (h72))))) ((w_up_at (by decide)).trans ((w_up_at (by decide)).trans (((tr49.2.2.2.1 158 5 (by decide) (by decide) (by decide) (Or.inl (by decide))).trans (l5))))) ((w_up_at (by decide)).trans ((w_up_at (by decide)).trans (((tr49.2.2.2.1 158 8 (by decide) (by decide) (by decide) (Or.inl (by decide))).trans (l8))))) (((w_up_at (by decide)).trans ((w_up_at (by decide)).trans ((tr49.2.2.2.1 158 10 (by decide) (by decide) (by decide) (Or.inl (by decide)))))).trans l10) hm hfl ((hf2 188 _ (by decide) (by decide) (by decide) (by decide) (by decide)).trans hstt) ((hf2 201 _ (by decide) (by decide) (by decide) (by decide) (by decide)).trans hfi) (fun x hx => by rw [hf2 (127 + x) (-1) (by omega) (by unfold wG; omega) (by omega) (by omega) (by omega), el3]; exact hth x hx) (by rw [el3]; exact hn2) (by rw [el, el2]; exact hl14) (by rw [el]; exact hz14) (by rw [el3]; exact hgb) ((hf2 133 _ (by decide) (by decide) (by decide) (by decide) (by decide)).trans hst) (by rw [el]; exact hrb) ((hf2 190 _ (by decide) (by decide) (by decide) (by decide) (by decide)).trans hmc) (by rw [el8, el9]; exact bl1) (by rw [el8]; exact ⟨by omega, by omega, bl3⟩) ((hf2 217 _ (by decide) (by decide) (by decide) (by decide) (by decide)).trans hk1) ((hf2 218 _ (by decide) (by decide) (by decide) (by decide) (by decide)).trans hv1)) (fun oq55 Sq55 hp56 q55 => ?_)
                      rcases q55 with ⟨rfl, rfl⟩
                      show wJ _ _ _ _ _ _ _ _ _ _
                      refine wa_goto ⟨_, rfl⟩ ?_
                      refine wa_aload_n (n := 0) rfl ?_
                      refine wb_gfi 158 rfl (wy_pr rfl) wt_158 wf_5_7 (v := kd) ((w_up_slot (by decide)).trans ((w_up_slot (by decide)).trans ((w_up_at (by decide)).trans ((w_up_at (by decide)).trans (((tr49.2.2.2.1 158 7 (by decide) (by decide) (by decide) (Or.inl (by decide))).trans (l7))))))) (fun r57 => ?_)
                      refine wa_iconst ?_
                      refine wa_icmpne (w_rg0 (by omega) (by omega)) (w_rg0 (by omega) (by omega)) ⟨_, rfl⟩ (fun c58 => ?_) (fun c58 => ?_)
                      · skip
                        refine wa_aload_n (n := 0) rfl ?_
                        refine wa_aload_n (n := 0) rfl ?_
                        refine wb_gfi 158 rfl (wy_pr rfl) wt_158 wf_5_16 (v := 0) ((w_up_slot (by decide)).trans ((w_up_slot (by decide)).trans ((w_up_at (by decide)).trans (w_up_same _ _ _ _)))) (fun r59 => ?_)
                        refine wa_aload_n (n := 0) rfl ?_
                        refine wb_gfl 158 rfl (wy_pr rfl) wt_158 wf_5_17 (v := 0) ((w_up_slot (by decide)).trans ((w_up_slot (by decide)).trans (w_up_same _ _ _ _))) (fun r60 => ?_)
                        refine wa_cv 158 rfl (wy_pr rfl) wt_158 (M2 := mS [217, 218]) rfl at_XL_giveValue ⟨_, rfl⟩ rfl rfl ⟨trivial, trivial, trivial, (Or.inr ⟨wy_pr rfl, mS_no rfl⟩), (Or.inr ⟨wy_pr rfl, mS_no rfl⟩), trivial, trivial⟩ trivial (fun _ _ q => mS_sub (by decide) q) (glx_215 (S := (w_up (w_up (w_up (w_up Sq49 158 16 0) 158 17 0) 141 (st + fi) k1) 142 (st + fi) v1)) (k := 0) (v := 0) (h := h) (c := c) (p := p) (ba := ba) (w_CL_up (w_CL_up (w_CL_up (w_CL_up (CL_tr hC tr49) (by omega)) (by omega)) (by omega)) (by omega)) (gI_up (gI_up (gI_up (gI_up tr49.2.2.2.2.2.1 (by omega) (by omega) (by omega)) (by omega) (by omega) (by omega)) (by omega) (by omega) (by omega)) (by omega) (by omega) (by omega)) ((w_up_slot (by decide)).trans ((w_up_slot (by decide)).trans ((w_up_at (by decide)).trans ((w_up_at (by decide)).trans (((tr49.2.2.2.1 158 4 (by decide) (by decide) (by decide) (Or.inl (by decide))).trans (l4))))))) ((w_up_slot (by decide)).trans ((w_up_slot (by decide)).trans ((w_up_at (by decide)).trans ((w_up_at (by decide)).trans (((tr49.2.2.2.1 158 5 (by decide) (by decide) (by decide) (Or.inl (by decide))).trans (l5))))))) ((w_up_slot (by decide)).trans ((w_up_slot (by decide)).trans ((w_up_at (by decide)).trans ((w_up_at (by decide)).trans (((tr49.2.2.2.1 158 8 (by decide) (by decide) (by decide) (Or.inl (by decide))).trans (l8))))))) ((w_up_slot (by decide)).trans ((w_up_slot (by decide)).trans ((w_up_slot (by decide)).trans ((w_up_slot (by decide)).trans (((tr49.2.2.2.1 215 4 (by decide) (by decide) (by decide) (Or.inl (by decide))).trans (bc))))))) ((w_up_slot (by decide)).trans ((w_up_slot (by decide)).trans ((w_up_slot (by decide)).trans ((w_up_slot (by decide)).trans (((tr49.2.2.2.1 220 (c - 1) (by decide) (by decide) (by decide) (Or.inl (by decide))).trans (bp))))))) ((((w_up_slot (by decide)).trans ((w_up_slot (by decide)).trans ((w_up_slot (by decide)).trans ((w_up_slot (by decide)).trans (((tr49.2.2.2.1 218 (-1) (by decide) (by decide) (by decide) (Or.inl (by decide))).trans (bl1)))))))).trans (((w_up_slot (by decide)).trans ((w_up_slot (by decide)).trans ((w_up_slot (by decide)).trans ((w_up_slot (by decide)).trans (((tr49.2.2.2.1 217 (-1) (by decide) (by decide) (by decide) (Or.inl (by decide))).trans (rfl)))))))).symm) (by have e : (w_up (w_up (w_up (w_up Sq49 158 16 0) 158 17 0) 141 (st + fi) k1) 142 (st + fi) v1) 217 (-1) = S 217 (-1) := ((w_up_slot (by decide)).trans ((w_up_slot (by decide)).trans ((w_up_slot (by decide)).trans ((w_up_slot (by decide)).trans (((tr49.2.2.2.1 217 (-1) (by decide) (by decide) (by decide) (Or.inl (by decide))).trans (rfl))))))); rw [e]; exact ⟨bl2, bl3⟩) (by have e : (w_up (w_up (w_up (w_up Sq49 158 16 0) 158 17 0) 141 (st + fi) k1) 142 (st + fi) v1) 217 (-1) = S 217 (-1) := ((w_up_slot (by decide)).trans ((w_up_slot (by decide)).trans ((w_up_slot (by decide)).trans ((w_up_slot (by decide)).trans (((tr49.2.2.2.1 217 (-1) (by decide) (by decide) (by decide) (Or.inl (by decide))).trans (rfl))))))); omega) ⟨by omega, by omega⟩ ⟨by omega, by omega⟩ ⟨by omega, by omega⟩ ⟨by omega, by omega⟩) (fun oq61 Sq61 hp62 q61 => ?_)
                        rcases q61 with ⟨rfl, hgv61⟩
                        show wJ _ _ _ _ _ _ _ _ _ _
                        refine wa_return rfl ?_
                        refine ⟨rfl, Or.inr ⟨by omega, Sq49, (w_up (w_up (w_up (w_up Sq49 158 16 0) 158 17 0) 141 (st + fi) k1) 142 (st + fi) v1), tr49, ?_, ?_⟩⟩
                        · exact fun j i hji => w_up_cg2 (w_up_cg2 ((w_up_no (by omega)).trans (w_up_no (by omega))))
                        · first | (rw [if_pos (show kd = 1 by omega), if_pos (show kd = 1 by omega)]; exact hgv61) | (rw [if_neg (show ¬ kd = 1 by omega), if_neg (show ¬ kd = 1 by omega)]; exact hgv61)
                      · skip
                        refine wa_aload_n (n := 0) rfl ?_
                        refine wa_aload_n (n := 0) rfl ?_
                        refine wb_gf5 158 rfl (wy_pr rfl) wt_158 wf_5_5 (v := 216) ((w_up_slot (by decide)).trans ((w_up_slot (by decide)).trans ((w_up_at (by decide)).trans ((w_up_at (by decide)).trans (((tr49.2.2.2.1 158 5 (by decide) (by decide) (by decide) (Or.inl (by decide))).trans (l5))))))) (fun r63 => ?_)
                        refine wb_gf4 216 rfl (wy_pr rfl) wt_216 wf_7_0 (v := 217) wl_216_0 ?_
                        refine wa_aload_n (n := 0) rfl ?_
                        refine wb_gf5 158 rfl (wy_pr rfl) wt_158 wf_5_5 (v := 216) ((w_up_slot (by decide)).trans ((w_up_slot (by decide)).trans ((w_up_at (by decide)).trans ((w_up_at (by decide)).trans (((tr49.2.2.2.1 158 5 (by decide) (by decide) (by decide) (Or.inl (by decide))).trans (l5))))))) (fun r64 => ?_)
                        refine wb_gfi 216 rfl (wy_pr rfl) wt_216 wf_7_2 (v := h) ((w_up_slot (by decide)).trans ((w_up_slot (by decide)).trans ((w_up_slot (by decide)).trans ((w_up_slot (by decide)).trans (((tr49.2.2.2.1 216 2 (by decide) (by decide) (by decide) (Or.inl (by decide))).trans (bh))))))) (fun r65 => ?_)
                        refine wa_iconst ?_
                        refine wa_isub ?_
                        refine wb_bald 217 rfl (wy_pr rfl) wt_217 (n := (S 217 (-1))) ((w_up_slot (by decide)).trans ((w_up_slot (by decide)).trans ((w_up_slot (by decide)).trans ((w_up_slot (by decide)).trans (((tr49.2.2.2.1 217 (-1) (by decide) (by decide) (by decide) (Or.inl (by decide))).trans (rfl))))))) (by omega) (by omega) (v := ky) ((w_up_slot (by decide)).trans ((w_up_slot (by decide)).trans ((w_up_slot (by decide)).trans ((w_up_slot (by decide)).trans (((tr49.2.2.2.1 217 (h - 1) (by decide) (by decide) (by decide) (Or.inl (by decide))).trans (hky))))))) (fun r66 => ?_)
                        refine wb_pfi 158 rfl (wy_pr rfl) wt_158 wf_5_16 (n := 16) rfl ⟨(by omega), (by omega)⟩ ?_
                        refine wa_aload_n (n := 0) rfl ?_
                        refine wa_aload_n (n := 0) rfl ?_
                        refine wb_gf5 158 rfl (wy_pr rfl) wt_158 wf_5_5 (v := 216) ((w_up_at (by decide)).trans ((w_up_slot (by decide)).trans ((w_up_slot (by decide)).trans ((w_up_at (by decide)).trans ((w_up_at (by decide)).trans (((tr49.2.2.2.1 158 5 (by decide) (by decide) (by decide) (Or.inl (by decide))).trans (l5)))))))) (fun r67 => ?_)
                        refine wb_gf4 216 rfl (wy_pr rfl) wt_216 wf_7_1 (v := 218) wl_216_1 ?_
                        refine wa_aload_n (n := 0) rfl ?_
                        refine wb_gf5 158 rfl (wy_pr rfl) wt_158 wf_5_5 (v := 216) ((w_up_at (by decide)).trans ((w_up_slot (by decide)).trans ((w_up_slot (by decide)).trans ((w_up_at (by decide)).trans ((w_up_at (by decide)).trans (((tr49.2.2.2.1 158 5 (by decide) (by decide) (by decide) (Or.inl (by decide))).trans (l5)))))))) (fun r68 => ?_)
                        refine wb_gfi 216 rfl (wy_pr rfl) wt_216 wf_7_2 (v := h) ((w_up_slot (by decide)).trans ((w_up_slot (by decide)).trans ((w_up_slot (by decide)).trans ((w_up_slot (by decide)).trans ((w_up_slot (by decide)).trans (((tr49.2.2.2.1 216 2 (by decide) (by decide) (by decide) (Or.inl (by decide))).trans (bh)))))))) (fun r69 => ?_)
                        refine wa_iconst ?_
                        refine wa_isub ?_
                        refine wb_lald 218 rfl (wy_pr rfl) wt_218 (n := (S 217 (-1))) ((w_up_slot (by decide)).trans ((w_up_slot (by decide)).trans ((w_up_slot (by decide)).trans ((w_up_slot (by decide)).trans ((w_up_slot (by decide)).trans (((tr49.2.2.2.1 218 (-1) (by decide) (by decide) (by decide) (Or.inl (by decide))).trans (bl1)))))))) (by omega) (by omega) (v := vy) ((w_up_slot (by decide)).trans ((w_up_slot (by decide)).trans ((w_up_slot (by decide)).trans ((w_up_slot (by decide)).trans ((w_up_slot (by decide)).trans (((tr49.2.2.2.1 218 (h - 1) (by decide) (by decide) (by decide) (Or.inl (by decide))).trans (hvy)))))))) (fun r70 => ?_)
                        refine wb_pfl 158 rfl (wy_pr rfl) wt_158 wf_5_17 (n := 17) rfl ⟨(by omega), (by omega)⟩ ?_
                        refine wa_fall ⟨_, rfl⟩ ?_
                        refine wa_aload_n (n := 0) rfl ?_
                        refine wa_aload_n (n := 0) rfl ?_
                        refine wb_gfi 158 rfl (wy_pr rfl) wt_158 wf_5_16 (v := ky) ((w_up_at (by decide)).trans (w_up_same _ _ _ _)) (fun r71 => ?_)
                        refine wa_aload_n (n := 0) rfl ?_
                        refine wb_gfl 158 rfl (wy_pr rfl) wt_158 wf_5_17 (v := vy) (w_up_same _ _ _ _) (fun r72 => ?_)
                        refine wa_cv 158 rfl (wy_pr rfl) wt_158 (M2 := mS [217, 218]) rfl at_XL_giveValue ⟨_, rfl⟩ rfl rfl ⟨trivial, trivial, trivial, (Or.inr ⟨wy_pr rfl, mS_no rfl⟩), (Or.inr ⟨wy_pr rfl, mS_no rfl⟩), trivial, trivial⟩ trivial (fun _ _ q => mS_sub (by decide) q) (glx_215 (S := (w_up (w_up (w_up (w_up (w_up (w_up Sq49 158 16 0) 158 17 0) 141 (st + fi) k1) 142 (st + fi) v1) 158 16 ky) 158 17 vy)) (k := ky) (v := vy) (h := h) (c := c) (p := p) (ba := ba) (w_CL_up (w_CL_up (w_CL_up (w_CL_up (w_CL_up (w_CL_up (CL_tr hC tr49) (by omega)) (by omega)) (by omega)) (by omega)) (by omega)) (by omega)) (gI_up (gI_up (gI_up (gI_up (gI_up (gI_up tr49.2.2.2.2.2.1 (by omega) (by omega) (by omega)) (by omega) (by omega) (by omega)) (by omega) (by omega) (by omega)) (by omega) (by omega) (by omega)) (by omega) (by omega) (by omega)) (by omega) (by omega) (by omega)) ((w_up_at (by decide)).trans ((w_up_at (by decide)).trans ((w_up_slot (by decide)).trans ((w_up_slot (by decide)).trans ((w_up_at (by decide)).trans ((w_up_at (by decide)).trans (((tr49.2.2.2.1 158 4 (by decide) (by decide) (by decide) (Or.inl (by decide))).trans (l4))))))))) ((w_up_at (by decide)).trans ((w_up_at (by decide)).trans ((w_up_slot (by decide)).trans ((w_up_slot (by decide)).trans ((w_up_at (by decide)).trans ((w_up_at (by decide)).trans (((tr49.2.2.2.1 158 5 (by decide) (by decide) (by decide) (Or.inl (by decide))).trans (l5))))))))) ((w_up_at (by decide)).trans ((w_up_at (by decide)).trans ((w_up_slot (by decide)).trans ((w_up_slot (by decide)).trans ((w_up_at (by decide)).trans ((w_up_at (by decide)).trans (((tr49.2.2.2.1 158 8 (by decide) (by decide) (by decide) (Or.inl (by decide))).trans (l8))))))))) ((w_up_slot (by decide)).trans ((w_up_slot (by decide)).trans ((w_up_slot (by decide)).trans ((w_up_slot (by decide)).trans ((w_up_slot (by decide)).trans ((w_up_slot (by decide)).trans (((tr49.2.2.2.1 215 4 (by decide) (by decide) (by decide) (Or.inl (by decide))).trans (bc))))))))) ((w_up_slot (by decide)).trans ((w_up_slot (by decide)).trans ((w_up_slot (by decide)).trans ((w_up_slot (by decide)).trans ((w_up_slot (by decide)).trans ((w_up_slot (by decide)).trans (((tr49.2.2.2.1 220 (c - 1) (by decide) (by decide) (by decide) (Or.inl (by decide))).trans (bp))))))))) ((((w_up_slot (by decide)).trans ((w_up_slot (by decide)).trans ((w_up_slot (by decide)).trans ((w_up_slot (by decide)).trans ((w_up_slot (by decide)).trans ((w_up_slot (by decide)).trans (((tr49.2.2.2.1 218 (-1) (by decide) (by decide) (by decide) (Or.inl (by decide))).trans (bl1)))))))))).trans (((w_up_slot (by decide)).trans ((w_up_slot (by decide)).trans ((w_up_slot (by decide)).trans ((w_up_slot (by decide)).trans ((w_up_slot (by decide)).trans ((w_up_slot (by decide)).trans (((tr49.2.2.2.1 217 (-1) (by decide) (by decide) (by decide) (Or.inl (by decide))).trans (rfl)))))))))).symm) (by have e : (w_up (w_up (w_up (w_up (w_up (w_up Sq49 158 16 0) 158 17 0) 141 (st + fi) k1) 142 (st + fi) v1) 158 16 ky) 158 17 vy) 217 (-1) = S 217 (-1) := ((w_up_slot (by decide)).trans ((w_up_slot (by decide)).trans ((w_up_slot (by decide)).trans ((w_up_slot (by decide)).trans ((w_up_slot (by decide)).trans ((w_up_slot (by decide)).trans (((tr49.2.2.2.1 217 (-1) (by decide) (by decide) (by decide) (Or.inl (by decide))).trans (rfl))))))))); rw [e]; exact ⟨bl2, bl3⟩) (by have e : (w_up (w_up (w_up (w_up (w_up (w_up Sq49 158 16 0) 158 17 0) 141 (st + fi) k1) 142 (st + fi) v1) 158 16 ky) 158 17 vy) 217 (-1) = S 217 (-1) := ((w_up_slot (by decide)).trans ((w_up_slot (by decide)).trans ((w_up_slot (by decide)).trans ((w_up_slot (by decide)).trans ((w_up_slot (by decide)).trans ((w_up_slot (by decide)).trans (((tr49.2.2.2.1 217 (-1) (by decide) (by decide) (by decide) (Or.inl (by decide))).trans (rfl))))))))); omega) ⟨by omega, by omega⟩ ⟨by omega, by omega⟩ ⟨by omega, by omega⟩ ⟨by omega, by omega⟩) (fun oq73 Sq73 hp74 q73 => ?_)
                        rcases q73 with ⟨rfl, hgv73⟩
                        show wJ _ _ _ _ _ _ _ _ _ _
                        refine wa_return rfl ?_
                        refine ⟨rfl, Or.inr ⟨by omega, Sq49, (w_up (w_up (w_up (w_up (w_up (w_up Sq49 158 16 0) 158 17 0) 141 (st + fi) k1) 142 (st + fi) v1) 158 16 ky) 158 17 vy), tr49, ?_, ?_⟩⟩
                        · exact fun j i hji => (w_up_no (by omega)).trans ((w_up_no (by omega)).trans (w_up_cg2 (w_up_cg2 ((w_up_no (by omega)).trans (w_up_no (by omega))))))
                        · first | (rw [if_pos (show kd = 1 by omega), if_pos (show kd = 1 by omega)]; exact hgv73) | (rw [if_neg (show ¬ kd = 1 by omega), if_neg (show ¬ kd = 1 by omega)]; exact hgv73)
                  · skip
                    exact absurd c51 (by omega)
                · skip
                  exact absurd c47 (by omega)
              · skip
                exact absurd c46 (by omega)
          · skip
            exact absurd c42 (by omega)
        · skip
          exact absurd c41 (by omega)
  · skip
    exact absurd c3 (by omega)
set_option maxHeartbeats 4000000 in
theorem cmv_162_226 {c p h kd ba m en tn ky vy  : Int} (hP : xP 226 c p h S) (l4 : S 158 4 = 226) (l5 : S 158 5 = 227) (l7 : S 158 7 = kd) (l8 : S 158 8 = ba) (l12 : S 158 12 = en) (hen : 0 ≤ en ∧ en ≤ 1000) (hba : 0 ≤ ba ∧ ba < h) (h72 : S 72 1 = 162) (hm : 0 ≤ m ∧ m < 400) (hso : S 187 m = 1) (ht15 : S 72 15 = tn) (ht0 : 0 ≤ tn ∧ tn ≤ S 152 (-1) ∧ tn ≤ 100000) (ht9 : 16 ≤ S 152 (-1) ∧ S 152 (-1) ≤ 131072 ∨ (16 ≤ S 152 (-1) ∧ S 152 (-1) ≤ 262143 ∧ tn + 2 ≤ S 152 (-1))) (hky : S 228 (h - 1) = ky) (hvy : S 229 (h - 1) = vy) (hkr : -128 ≤ ky ∧ ky ≤ 127) (hvr : -9223372036854775808 ≤ vy ∧ vy ≤ 9223372036854775807) (hmt : S 189 m = 0) (hmf : S 201 m = -1) : wJ (pe_GA xs) wY0 (mS [228, 229, 152]) (d + 6) t_XL_callMember ((pe_at t_XL_callMember.bl 0).getD (0, [])).2 [(0, (2, 158)), (1, (0, m))] [] S (fun o Z => o = .inl none ∧ ((100000 < tn + 2 ∧ w_up S 226 16 99 = Z) ∨ (¬ (100000 < tn + 2) ∧ cmE 226 h c p (h - ba) kd ky vy 0 0 m en gvR S Z))) := by
  obtain ⟨⟨hC, hI⟩, ⟨bc, bc0, bc1⟩, ⟨bp, bp0, bp1⟩, ⟨bh, bh0, bh1, bh2⟩, bl1, bl2, bl3⟩ := hP
  replace bp : S 231 (c - 1) = p := bp
  replace bh : S 227 2 = h := bh
  replace bh2 : h ≤ S 228 (-1) := bh2
  replace bl1 : S 229 (-1) = S 228 (-1) := bl1
  replace bl2 : 64 ≤ S 228 (-1) := bl2
  replace bl3 : S 228 (-1) ≤ 4095 := bl3
  refine wa_aload_n (n := 0) rfl ?_
  refine wb_gf4 158 rfl (wy_pr rfl) wt_158 wf_5_0 (v := 72) wl_158_0 ?_
  refine wb_gf5 72 rfl (wy_pr rfl) wt_72 wf_2_1 (v := 162) (h72) (fun r1 => ?_)
  refine wa_astore_n (n := 2) rfl ?_
  refine wa_aload_n (n := 2) rfl ?_
  refine wb_gf4 162 rfl (wy_pr rfl) wt_162 wf_3_3 (v := 185) wl_162_3 ?_
  refine wa_iconst ?_
  refine wb_aald5 185 1 rfl rfl (wy_pr rfl) wt_185 (by rw [show _ = _ from ((cl_185 hC))]; omega) wl_185_1 ?_
  refine wa_iload_n (n := 1) rfl ?_
  refine wb_iald 187 rfl (wy_pr rfl) wt_187 (n := 400) ((cl_187 hC)) (by omega) (by omega) (v := 1) (hso) (fun r2 => ?_)
  refine wa_iconst ?_
  refine wa_icmpne (w_rg0 (by omega) (by omega)) (w_rg0 (by omega) (by omega)) ⟨_, rfl⟩ (fun c3 => ?_) (fun c3 => ?_)
  · skip
    refine wa_iconst ?_
    refine wa_fall ⟨_, rfl⟩ ?_
    refine wa_istore_n (n := 3) rfl ?_
    refine wa_iload_n (n := 3) rfl ?_
    refine wa_ifne (w_rg0 (by omega) (by omega)) ⟨_, rfl⟩ (fun c4 => ?_) (fun c4 => ?_)
    · skip
      exact absurd c4 (by omega)
    · skip
      refine wa_aload_n (n := 2) rfl ?_
      refine wb_gf4 162 rfl (wy_pr rfl) wt_162 wf_3_3 (v := 185) wl_162_3 ?_
      refine wa_iconst ?_
      refine wb_aald5 185 3 rfl rfl (wy_pr rfl) wt_185 (by rw [show _ = _ from ((cl_185 hC))]; omega) wl_185_3 ?_
      refine wa_iload_n (n := 1) rfl ?_
      refine wb_iald 189 rfl (wy_pr rfl) wt_189 (n := 400) ((cl_189 hC)) (by omega) (by omega) (v := 0) (hmt) (fun r5 => ?_)
      refine wa_bipush (w_rg2 (by omega) (by omega)) ?_
      refine wa_icmpne (w_rg0 (by omega) (by omega)) (w_rg0 (by omega) (by omega)) ⟨_, rfl⟩ (fun c6 => ?_) (fun c6 => ?_)
      · skip
        refine wa_iconst ?_
        refine wa_fall ⟨_, rfl⟩ ?_
        refine wa_istore (n := 4) rfl ?_
        refine wa_iload_n (n := 3) rfl ?_
        refine wa_ifeq (w_rg0 (by omega) (by omega)) ⟨_, rfl⟩ (fun c7 => ?_) (fun c7 => ?_)
        · skip
          refine wa_iconst ?_
          refine wa_fall ⟨_, rfl⟩ ?_
          refine wa_istore (n := 5) rfl ?_
          refine wa_aload_n (n := 0) rfl ?_
          refine wb_gf4 158 rfl (wy_pr rfl) wt_158 wf_5_0 (v := 72) wl_158_0 ?_
          refine wb_gfi 72 rfl (wy_pr rfl) wt_72 wf_2_15 (v := tn) (ht15) (fun r8 => ?_)
          refine wa_iconst ?_
          refine wa_iadd ?_
          refine wb_ki (n := 100000) rfl ?_
          refine wa_icmpgt (w_rg0 (by omega) (by omega)) (w_rg0 (by omega) (by omega)) ⟨_, rfl⟩ (fun c9 => ?_) (fun c9 => ?_)
          · skip
            refine wa_aload_n (n := 0) rfl ?_
            refine wb_gf5 158 rfl (wy_pr rfl) wt_158 wf_5_4 (v := 226) (l4) (fun r10 => ?_)
            refine wa_bipush (w_rg2 (by omega) (by omega)) ?_
            refine wb_pfi 226 rfl (wy_pr rfl) wt_226 wf_8_16 (n := 16) rfl ⟨(by omega), (by omega)⟩ ?_
            refine wa_return rfl ?_
            exact ⟨rfl, Or.inl ⟨by omega, rfl⟩⟩
          · skip
            refine wa_iload_n (n := 3) rfl ?_
            refine wa_ifeq (w_rg0 (by omega) (by omega)) ⟨_, rfl⟩ (fun c11 => ?_) (fun c11 => ?_)
            · skip
              refine wa_iload (n := 4) rfl ?_
              refine wa_ifeq (w_rg0 (by omega) (by omega)) ⟨_, rfl⟩ (fun c12 => ?_) (fun c12 => ?_)
              · skip
                refine wa_aload_n (n := 0) rfl ?_
                refine wb_gf4 158 rfl (wy_pr rfl) wt_158 wf_5_0 (v := 72) wl_158_0 ?_
                refine wa_iload_n (n := 1) rfl ?_
                refine wa_aload_n (n := 0) rfl ?_
                refine wb_gfi 158 rfl (wy_pr rfl) wt_158 wf_5_12 (v := en) (l12) (fun r13 => ?_)
                refine wa_cv 72 rfl (wy_pr rfl) wt_72 (M2 := mS [152]) rfl at_XH_addTrace ⟨_, rfl⟩ rfl rfl ⟨trivial, trivial, trivial, (Or.inr ⟨wy_pr rfl, mS_no rfl⟩), (Or.inr ⟨wy_pr rfl, mS_no rfl⟩), trivial, trivial⟩ trivial (fun _ _ q => mS_sub (by decide) q) (tra (S := S) (m := m) (k := en) hI ⟨by omega, by omega⟩ ⟨by omega, by omega⟩ (by rw [ht15]; exact ht0) (by rw [ht15]; exact ht9)) (fun oq14 Sq14 hp15 q14 => ?_)
                rcases q14 with ⟨rfl, tr14⟩
                show wJ _ _ _ _ _ _ _ _ _ _
                refine wa_aload_n (n := 0) rfl ?_
                refine wa_iconst ?_
                refine wb_pfi 158 rfl (wy_pr rfl) wt_158 wf_5_16 (n := 16) rfl ⟨(by omega), (by omega)⟩ ?_
                refine wa_aload_n (n := 0) rfl ?_
                refine wb_lconst (m := 0) rfl ?_
                refine wb_pfl 158 rfl (wy_pr rfl) wt_158 wf_5_17 (n := 17) rfl ⟨(by omega), (by omega)⟩ ?_
                refine wa_iload_n (n := 3) rfl ?_
                refine wa_ifeq (w_rg0 (by omega) (by omega)) ⟨_, rfl⟩ (fun c16 => ?_) (fun c16 => ?_)
                · skip
                  refine wa_aload_n (n := 2) rfl ?_
                  refine wb_gf4 162 rfl (wy_pr rfl) wt_162 wf_3_3 (v := 185) wl_162_3 ?_
                  refine wa_bipush (w_rg2 (by omega) (by omega)) ?_
                  refine wb_aald5 185 15 rfl rfl (wy_pr rfl) wt_185 (by rw [show _ = _ from ((w_up_slot (by decide)).trans ((w_up_slot (by decide)).trans (((tr14.2.2.2.1 185 (-1) (by decide) (by decide) (by decide) (Or.inl (by decide))).trans ((cl_185 hC))))))]; omega) wl_185_15 ?_
                  refine wa_iload_n (n := 1) rfl ?_
                  refine wb_iald 201 rfl (wy_pr rfl) wt_201 (n := 400) ((w_up_slot (by decide)).trans ((w_up_slot (by decide)).trans (((tr14.2.2.2.1 201 (-1) (by decide) (by decide) (by decide) (Or.inl (by decide))).trans ((cl_201 hC)))))) (by omega) (by omega) (v := (-1)) ((w_up_slot (by decide)).trans ((w_up_slot (by decide)).trans (((tr14.2.2.2.1 201 m (by decide) (by decide) (by decide) (Or.inl (by decide))).trans (hmf))))) (fun r17 => ?_)
                  refine wa_iconst ?_
                  refine wa_icmpeq (w_rg0 (by omega) (by omega)) (w_rg0 (by omega) (by omega)) ⟨_, rfl⟩ (fun c18 => ?_) (fun c18 => ?_)
                  · skip
                    refine wa_aload_n (n := 0) rfl ?_
                    refine wa_iload_n (n := 1) rfl ?_
                    refine wa_cv 158 rfl (wy_pr rfl) wt_158 (M2 := fun _ => False) rfl at_XL_answer ⟨_, rfl⟩ rfl rfl ⟨trivial, trivial, trivial, (Or.inr ⟨wy_pr rfl, fun q => q⟩), (Or.inr ⟨wy_pr rfl, fun q => q⟩), trivial, trivial⟩ trivial (fun _ _ q => False.elim q) (anv_162_215 (S := (w_up (w_up Sq14 158 16 0) 158 17 0)) (m := m) (w_CL_up (w_CL_up (CL_tr hC tr14) (by omega)) (by omega)) ((w_up_slot (by decide)).trans ((w_up_slot (by decide)).trans (((tr14.2.2.2.1 72 1 (by decide) (by decide) (by decide) (Or.inr (by decide))).trans (h72))))) hm ((w_up_slot (by decide)).trans ((w_up_slot (by decide)).trans (((tr14.2.2.2.1 189 m (by decide) (by decide) (by decide) (Or.inl (by decide))).trans (hmt)))))) (fun oq19 Sq19 hp20 q19 => ?_)
                    rcases q19 with ⟨rfl, rfl⟩
                    show wJ _ _ _ _ _ _ _ _ _ _
                    refine wa_fall ⟨_, rfl⟩ ?_
                    refine wa_aload_n (n := 0) rfl ?_
                    refine wb_gfi 158 rfl (wy_pr rfl) wt_158 wf_5_7 (v := kd) ((w_up_at (by decide)).trans ((w_up_at (by decide)).trans (((tr14.2.2.2.1 158 7 (by decide) (by decide) (by decide) (Or.inl (by decide))).trans (l7))))) (fun r21 => ?_)
                    refine wa_iconst ?_
                    refine wa_icmpne (w_rg0 (by omega) (by omega)) (w_rg0 (by omega) (by omega)) ⟨_, rfl⟩ (fun c22 => ?_) (fun c22 => ?_)
                    · skip
                      refine wa_aload_n (n := 0) rfl ?_
                      refine wa_aload_n (n := 0) rfl ?_
                      refine wb_gfi 158 rfl (wy_pr rfl) wt_158 wf_5_16 (v := 0) ((w_up_at (by decide)).trans (w_up_same _ _ _ _)) (fun r23 => ?_)
                      refine wa_aload_n (n := 0) rfl ?_
                      refine wb_gfl 158 rfl (wy_pr rfl) wt_158 wf_5_17 (v := 0) (w_up_same _ _ _ _) (fun r24 => ?_)
                      refine wa_cv 158 rfl (wy_pr rfl) wt_158 (M2 := mS [228, 229]) rfl at_XL_giveValue ⟨_, rfl⟩ rfl rfl ⟨trivial, trivial, trivial, (Or.inr ⟨wy_pr rfl, mS_no rfl⟩), (Or.inr ⟨wy_pr rfl, mS_no rfl⟩), trivial, trivial⟩ trivial (fun _ _ q => mS_sub (by decide) q) (glx_226 (S := (w_up (w_up Sq14 158 16 0) 158 17 0)) (k := 0) (v := 0) (h := h) (c := c) (p := p) (ba := ba) (w_CL_up (w_CL_up (CL_tr hC tr14) (by omega)) (by omega)) (gI_up (gI_up tr14.2.2.2.2.2.1 (by omega) (by omega) (by omega)) (by omega) (by omega) (by omega)) ((w_up_at (by decide)).trans ((w_up_at (by decide)).trans (((tr14.2.2.2.1 158 4 (by decide) (by decide) (by decide) (Or.inl (by decide))).trans (l4))))) ((w_up_at (by decide)).trans ((w_up_at (by decide)).trans (((tr14.2.2.2.1 158 5 (by decide) (by decide) (by decide) (Or.inl (by decide))).trans (l5))))) ((w_up_at (by decide)).trans ((w_up_at (by decide)).trans (((tr14.2.2.2.1 158 8 (by decide) (by decide) (by decide) (Or.inl (by decide))).trans (l8))))) ((w_up_slot (by decide)).trans ((w_up_slot (by decide)).trans (((tr14.2.2.2.1 226 4 (by decide) (by decide) (by decide) (Or.inl (by decide))).trans (bc))))) ((w_up_slot (by decide)).trans ((w_up_slot (by decide)).trans (((tr14.2.2.2.1 231 (c - 1) (by decide) (by decide) (by decide) (Or.inl (by decide))).trans (bp))))) ((((w_up_slot (by decide)).trans ((w_up_slot (by decide)).trans (((tr14.2.2.2.1 229 (-1) (by decide) (by decide) (by decide) (Or.inl (by decide))).trans (bl1)))))).trans (((w_up_slot (by decide)).trans ((w_up_slot (by decide)).trans (((tr14.2.2.2.1 228 (-1) (by decide) (by decide) (by decide) (Or.inl (by decide))).trans (rfl)))))).symm) (by have e : (w_up (w_up Sq14 158 16 0) 158 17 0) 228 (-1) = S 228 (-1) := ((w_up_slot (by decide)).trans ((w_up_slot (by decide)).trans (((tr14.2.2.2.1 228 (-1) (by decide) (by decide) (by decide) (Or.inl (by decide))).trans (rfl))))); rw [e]; exact ⟨bl2, bl3⟩) (by have e : (w_up (w_up Sq14 158 16 0) 158 17 0) 228 (-1) = S 228 (-1) := ((w_up_slot (by decide)).trans ((w_up_slot (by decide)).trans (((tr14.2.2.2.1 228 (-1) (by decide) (by decide) (by decide) (Or.inl (by decide))).trans (rfl))))); omega) ⟨by omega, by omega⟩ ⟨by omega, by omega⟩ ⟨by omega, by omega⟩ ⟨by omega, by omega⟩) (fun oq25 Sq25 hp26 q25 => ?_)
                      rcases q25 with ⟨rfl, hgv25⟩
                      show wJ _ _ _ _ _ _ _ _ _ _
                      refine wa_return rfl ?_
                      refine ⟨rfl, Or.inr ⟨by omega, Sq14, (w_up (w_up Sq14 158 16 0) 158 17 0), tr14, ?_, ?_⟩⟩
                      · exact fun j i hji => (w_up_no (by omega)).trans ((w_up_no (by omega)).trans (rfl))
                      · first | (rw [if_pos (show kd = 1 by omega), if_pos (show kd = 1 by omega)]; exact hgv25) | (rw [if_neg (show ¬ kd = 1 by omega), if_neg (show ¬ kd = 1 by omega)]; exact hgv25)
                    · skip
                      refine wa_aload_n (n := 0) rfl ?_
                      refine wa_aload_n (n := 0) rfl ?_
                      refine wb_gf5 158 rfl (wy_pr rfl) wt_158 wf_5_5 (v := 227) ((w_up_at (by decide)).trans ((w_up_at (by decide)).trans (((tr14.2.2.2.1 158 5 (by decide) (by decide) (by decide) (Or.inl (by decide))).trans (l5))))) (fun r27 => ?_)
                      refine wb_gf4 227 rfl (wy_pr rfl) wt_227 wf_7_0 (v := 228) wl_227_0 ?_
                      refine wa_aload_n (n := 0) rfl ?_
                      refine wb_gf5 158 rfl (wy_pr rfl) wt_158 wf_5_5 (v := 227) ((w_up_at (by decide)).trans ((w_up_at (by decide)).trans (((tr14.2.2.2.1 158 5 (by decide) (by decide) (by decide) (Or.inl (by decide))).trans (l5))))) (fun r28 => ?_)
                      refine wb_gfi 227 rfl (wy_pr rfl) wt_227 wf_7_2 (v := h) ((w_up_slot (by decide)).trans ((w_up_slot (by decide)).trans (((tr14.2.2.2.1 227 2 (by decide) (by decide) (by decide) (Or.inl (by decide))).trans (bh))))) (fun r29 => ?_)
                      refine wa_iconst ?_
                      refine wa_isub ?_
                      refine wb_bald 228 rfl (wy_pr rfl) wt_228 (n := (S 228 (-1))) ((w_up_slot (by decide)).trans ((w_up_slot (by decide)).trans (((tr14.2.2.2.1 228 (-1) (by decide) (by decide) (by decide) (Or.inl (by decide))).trans (rfl))))) (by omega) (by omega) (v := ky) ((w_up_slot (by decide)).trans ((w_up_slot (by decide)).trans (((tr14.2.2.2.1 228 (h - 1) (by decide) (by decide) (by decide) (Or.inl (by decide))).trans (hky))))) (fun r30 => ?_)
                      refine wb_pfi 158 rfl (wy_pr rfl) wt_158 wf_5_16 (n := 16) rfl ⟨(by omega), (by omega)⟩ ?_
                      refine wa_aload_n (n := 0) rfl ?_
                      refine wa_aload_n (n := 0) rfl ?_
                      refine wb_gf5 158 rfl (wy_pr rfl) wt_158 wf_5_5 (v := 227) ((w_up_at (by decide)).trans ((w_up_at (by decide)).trans ((w_up_at (by decide)).trans (((tr14.2.2.2.1 158 5 (by decide) (by decide) (by decide) (Or.inl (by decide))).trans (l5)))))) (fun r31 => ?_)
                      refine wb_gf4 227 rfl (wy_pr rfl) wt_227 wf_7_1 (v := 229) wl_227_1 ?_
                      refine wa_aload_n (n := 0) rfl ?_
                      refine wb_gf5 158 rfl (wy_pr rfl) wt_158 wf_5_5 (v := 227) ((w_up_at (by decide)).trans ((w_up_at (by decide)).trans ((w_up_at (by decide)).trans (((tr14.2.2.2.1 158 5 (by decide) (by decide) (by decide) (Or.inl (by decide))).trans (l5)))))) (fun r32 => ?_)
                      refine wb_gfi 227 rfl (wy_pr rfl) wt_227 wf_7_2 (v := h) ((w_up_slot (by decide)).trans ((w_up_slot (by decide)).trans ((w_up_slot (by decide)).trans (((tr14.2.2.2.1 227 2 (by decide) (by decide) (by decide) (Or.inl (by decide))).trans (bh)))))) (fun r33 => ?_)
                      refine wa_iconst ?_
                      refine wa_isub ?_
                      refine wb_lald 229 rfl (wy_pr rfl) wt_229 (n := (S 228 (-1))) ((w_up_slot (by decide)).trans ((w_up_slot (by decide)).trans ((w_up_slot (by decide)).trans (((tr14.2.2.2.1 229 (-1) (by decide) (by decide) (by decide) (Or.inl (by decide))).trans (bl1)))))) (by omega) (by omega) (v := vy) ((w_up_slot (by decide)).trans ((w_up_slot (by decide)).trans ((w_up_slot (by decide)).trans (((tr14.2.2.2.1 229 (h - 1) (by decide) (by decide) (by decide) (Or.inl (by decide))).trans (hvy)))))) (fun r34 => ?_)
                      refine wb_pfl 158 rfl (wy_pr rfl) wt_158 wf_5_17 (n := 17) rfl ⟨(by omega), (by omega)⟩ ?_
                      refine wa_fall ⟨_, rfl⟩ ?_
                      refine wa_aload_n (n := 0) rfl ?_
                      refine wa_aload_n (n := 0) rfl ?_
                      refine wb_gfi 158 rfl (wy_pr rfl) wt_158 wf_5_16 (v := ky) ((w_up_at (by decide)).trans (w_up_same _ _ _ _)) (fun r35 => ?_)
                      refine wa_aload_n (n := 0) rfl ?_
                      refine wb_gfl 158 rfl (wy_pr rfl) wt_158 wf_5_17 (v := vy) (w_up_same _ _ _ _) (fun r36 => ?_)
                      refine wa_cv 158 rfl (wy_pr rfl) wt_158 (M2 := mS [228, 229]) rfl at_XL_giveValue ⟨_, rfl⟩ rfl rfl ⟨trivial, trivial, trivial, (Or.inr ⟨wy_pr rfl, mS_no rfl⟩), (Or.inr ⟨wy_pr rfl, mS_no rfl⟩), trivial, trivial⟩ trivial (fun _ _ q => mS_sub (by decide) q) (glx_226 (S := (w_up (w_up (w_up (w_up Sq14 158 16 0) 158 17 0) 158 16 ky) 158 17 vy)) (k := ky) (v := vy) (h := h) (c := c) (p := p) (ba := ba) (w_CL_up (w_CL_up (w_CL_up (w_CL_up (CL_tr hC tr14) (by omega)) (by omega)) (by omega)) (by omega)) (gI_up (gI_up (gI_up (gI_up tr14.2.2.2.2.2.1 (by omega) (by omega) (by omega)) (by omega) (by omega) (by omega)) (by omega) (by omega) (by omega)) (by omega) (by omega) (by omega)) ((w_up_at (by decide)).trans ((w_up_at (by decide)).trans ((w_up_at (by decide)).trans ((w_up_at (by decide)).trans (((tr14.2.2.2.1 158 4 (by decide) (by decide) (by decide) (Or.inl (by decide))).trans (l4))))))) ((w_up_at (by decide)).trans ((w_up_at (by decide)).trans ((w_up_at (by decide)).trans ((w_up_at (by decide)).trans (((tr14.2.2.2.1 158 5 (by decide) (by decide) (by decide) (Or.inl (by decide))).trans (l5))))))) ((w_up_at (by decide)).trans ((w_up_at (by decide)).trans ((w_up_at (by decide)).trans ((w_up_at (by decide)).trans (((tr14.2.2.2.1 158 8 (by decide) (by decide) (by decide) (Or.inl (by decide))).trans (l8))))))) ((w_up_slot (by decide)).trans ((w_up_slot (by decide)).trans ((w_up_slot (by decide)).trans ((w_up_slot (by decide)).trans (((tr14.2.2.2.1 226 4 (by decide) (by decide) (by decide) (Or.inl (by decide))).trans (bc))))))) ((w_up_slot (by decide)).trans ((w_up_slot (by decide)).trans ((w_up_slot (by decide)).trans ((w_up_slot (by decide)).trans (((tr14.2.2.2.1 231 (c - 1) (by decide) (by decide) (by decide) (Or.inl (by decide))).trans (bp))))))) ((((w_up_slot (by decide)).trans ((w_up_slot (by decide)).trans ((w_up_slot (by decide)).trans ((w_up_slot (by decide)).trans (((tr14.2.2.2.1 229 (-1) (by decide) (by decide) (by decide) (Or.inl (by decide))).trans (bl1)))))))).trans (((w_up_slot (by decide)).trans ((w_up_slot (by decide)).trans ((w_up_slot (by decide)).trans ((w_up_slot (by decide)).trans (((tr14.2.2.2.1 228 (-1) (by decide) (by decide) (by decide) (Or.inl (by decide))).trans (rfl)))))))).symm) (by have e : (w_up (w_up (w_up (w_up Sq14 158 16 0) 158 17 0) 158 16 ky) 158 17 vy) 228 (-1) = S 228 (-1) := ((w_up_slot (by decide)).trans ((w_up_slot (by decide)).trans ((w_up_slot (by decide)).trans ((w_up_slot (by decide)).trans (((tr14.2.2.2.1 228 (-1) (by decide) (by decide) (by decide) (Or.inl (by decide))).trans (rfl))))))); rw [e]; exact ⟨bl2, bl3⟩) (by have e : (w_up (w_up (w_up (w_up Sq14 158 16 0) 158 17 0) 158 16 ky) 158 17 vy) 228 (-1) = S 228 (-1) := ((w_up_slot (by decide)).trans ((w_up_slot (by decide)).trans ((w_up_slot (by decide)).trans ((w_up_slot (by decide)).trans (((tr14.2.2.2.1 228 (-1) (by decide) (by decide) (by decide) (Or.inl (by decide))).trans (rfl))))))); omega) ⟨by omega, by omega⟩ ⟨by omega, by omega⟩ ⟨by omega, by omega⟩ ⟨by omega, by omega⟩) (fun oq37 Sq37 hp38 q37 => ?_)
                      rcases q37 with ⟨rfl, hgv37⟩
                      show wJ _ _ _ _ _ _ _ _ _ _
                      refine wa_return rfl ?_
                      refine ⟨rfl, Or.inr ⟨by omega, Sq14, (w_up (w_up (w_up (w_up Sq14 158 16 0) 158 17 0) 158 16 ky) 158 17 vy), tr14, ?_, ?_⟩⟩
                      · exact fun j i hji => (w_up_no (by omega)).trans ((w_up_no (by omega)).trans ((w_up_no (by omega)).trans ((w_up_no (by omega)).trans (rfl))))
                      · first | (rw [if_pos (show kd = 1 by omega), if_pos (show kd = 1 by omega)]; exact hgv37) | (rw [if_neg (show ¬ kd = 1 by omega), if_neg (show ¬ kd = 1 by omega)]; exact hgv37)
                  · skip
                    exact absurd c18 (by omega)
                · skip
                  exact absurd c16 (by omega)
              · skip
                exact absurd c12 (by omega)
            · skip
              exact absurd c11 (by omega)
        · skip
          exact absurd c7 (by omega)
      · skip
        exact absurd c6 (by omega)
  · skip
    exact absurd c3 (by omega)
set_option maxHeartbeats 4000000 in
theorem cmn_162_226 {c p h kd ba m en tn ky vy ty : Int} (hP : xP 226 c p h S) (l4 : S 158 4 = 226) (l5 : S 158 5 = 227) (l7 : S 158 7 = kd) (l8 : S 158 8 = ba) (l12 : S 158 12 = en) (hen : 0 ≤ en ∧ en ≤ 1000) (hba : 0 ≤ ba ∧ ba < h) (h72 : S 72 1 = 162) (hm : 0 ≤ m ∧ m < 400) (hso : S 187 m = 1) (ht15 : S 72 15 = tn) (ht0 : 0 ≤ tn ∧ tn ≤ S 152 (-1) ∧ tn ≤ 100000) (ht9 : 16 ≤ S 152 (-1) ∧ S 152 (-1) ≤ 131072 ∨ (16 ≤ S 152 (-1) ∧ S 152 (-1) ≤ 262143 ∧ tn + 2 ≤ S 152 (-1))) (hky : S 228 (h - 1) = ky) (hvy : S 229 (h - 1) = vy) (hkr : -128 ≤ ky ∧ ky ≤ 127) (hvr : -9223372036854775808 ≤ vy ∧ vy ≤ 9223372036854775807) {es : List (Int × Int)} (hmt : S 189 m = ty) (hmf : S 201 m = -1) (htr : 1 ≤ ty ∧ ty ≤ 6) (hel : en = (es.length : Int)) (heb : ba + 1 + en ≤ h) (hes : ∀ i : Nat, i < es.length → S 228 (ba + 1 + (i : Int)) = (es.getD i (0, 0)).1 ∧ S 229 (ba + 1 + (i : Int)) = (es.getD i (0, 0)).2) : wJ (pe_GA xs) wY0 (mS [228, 229, 152]) (d + 6) t_XL_callMember ((pe_at t_XL_callMember.bl 0).getD (0, [])).2 [(0, (2, 158)), (1, (0, m))] [] S (fun o Z => o = .inl none ∧ ((100000 < tn + 2 ∧ w_up S 226 16 99 = Z) ∨ (¬ (100000 < tn + 2) ∧ cmE 226 h c p (h - ba) kd ky vy (anK ty) (anB ty (anS m es)) m en gvR S Z))) := by
  obtain ⟨⟨hC, hI⟩, ⟨bc, bc0, bc1⟩, ⟨bp, bp0, bp1⟩, ⟨bh, bh0, bh1, bh2⟩, bl1, bl2, bl3⟩ := hP
  replace bp : S 231 (c - 1) = p := bp
  replace bh : S 227 2 = h := bh
  replace bh2 : h ≤ S 228 (-1) := bh2
  replace bl1 : S 229 (-1) = S 228 (-1) := bl1
  replace bl2 : 64 ≤ S 228 (-1) := bl2
  replace bl3 : S 228 (-1) ≤ 4095 := bl3
  have hak : 1 ≤ anK ty ∧ anK ty ≤ 2 := by unfold anK; split <;> omega
  have hab : -9223372036854775808 ≤ anB ty (anS m es) ∧ anB ty (anS m es) ≤ 9223372036854775807 := by
    have z1 := land_1 (anS m es)
    have z2 := wb_l2i_rg (anS m es)
    have z3 := w64_rg (anS m es)
    unfold anB
    split
    · omega
    · split <;> omega
  refine wa_aload_n (n := 0) rfl ?_
  refine wb_gf4 158 rfl (wy_pr rfl) wt_158 wf_5_0 (v := 72) wl_158_0 ?_
  refine wb_gf5 72 rfl (wy_pr rfl) wt_72 wf_2_1 (v := 162) (h72) (fun r1 => ?_)
  refine wa_astore_n (n := 2) rfl ?_
  refine wa_aload_n (n := 2) rfl ?_
  refine wb_gf4 162 rfl (wy_pr rfl) wt_162 wf_3_3 (v := 185) wl_162_3 ?_
  refine wa_iconst ?_
  refine wb_aald5 185 1 rfl rfl (wy_pr rfl) wt_185 (by rw [show _ = _ from ((cl_185 hC))]; omega) wl_185_1 ?_
  refine wa_iload_n (n := 1) rfl ?_
  refine wb_iald 187 rfl (wy_pr rfl) wt_187 (n := 400) ((cl_187 hC)) (by omega) (by omega) (v := 1) (hso) (fun r2 => ?_)
  refine wa_iconst ?_
  refine wa_icmpne (w_rg0 (by omega) (by omega)) (w_rg0 (by omega) (by omega)) ⟨_, rfl⟩ (fun c3 => ?_) (fun c3 => ?_)
  · skip
    refine wa_iconst ?_
    refine wa_fall ⟨_, rfl⟩ ?_
    refine wa_istore_n (n := 3) rfl ?_
    refine wa_iload_n (n := 3) rfl ?_
    refine wa_ifne (w_rg0 (by omega) (by omega)) ⟨_, rfl⟩ (fun c4 => ?_) (fun c4 => ?_)
    · skip
      exact absurd c4 (by omega)
    · skip
      refine wa_aload_n (n := 2) rfl ?_
      refine wb_gf4 162 rfl (wy_pr rfl) wt_162 wf_3_3 (v := 185) wl_162_3 ?_
      refine wa_iconst ?_
      refine wb_aald5 185 3 rfl rfl (wy_pr rfl) wt_185 (by rw [show _ = _ from ((cl_185 hC))]; omega) wl_185_3 ?_
      refine wa_iload_n (n := 1) rfl ?_
      refine wb_iald 189 rfl (wy_pr rfl) wt_189 (n := 400) ((cl_189 hC)) (by omega) (by omega) (v := ty) (hmt) (fun r5 => ?_)
      refine wa_bipush (w_rg2 (by omega) (by omega)) ?_
      refine wa_icmpne (w_rg0 (by omega) (by omega)) (w_rg0 (by omega) (by omega)) ⟨_, rfl⟩ (fun c6 => ?_) (fun c6 => ?_)
      · skip
        refine wa_iconst ?_
        refine wa_fall ⟨_, rfl⟩ ?_
        refine wa_istore (n := 4) rfl ?_
        refine wa_iload_n (n := 3) rfl ?_
        refine wa_ifeq (w_rg0 (by omega) (by omega)) ⟨_, rfl⟩ (fun c7 => ?_) (fun c7 => ?_)
        · skip
          refine wa_iconst ?_
          refine wa_fall ⟨_, rfl⟩ ?_
          refine wa_istore (n := 5) rfl ?_
          refine wa_aload_n (n := 0) rfl ?_
          refine wb_gf4 158 rfl (wy_pr rfl) wt_158 wf_5_0 (v := 72) wl_158_0 ?_
          refine wb_gfi 72 rfl (wy_pr rfl) wt_72 wf_2_15 (v := tn) (ht15) (fun r8 => ?_)
          refine wa_iconst ?_
          refine wa_iadd ?_
          refine wb_ki (n := 100000) rfl ?_
          refine wa_icmpgt (w_rg0 (by omega) (by omega)) (w_rg0 (by omega) (by omega)) ⟨_, rfl⟩ (fun c9 => ?_) (fun c9 => ?_)
          · skip
            refine wa_aload_n (n := 0) rfl ?_
            refine wb_gf5 158 rfl (wy_pr rfl) wt_158 wf_5_4 (v := 226) (l4) (fun r10 => ?_)
            refine wa_bipush (w_rg2 (by omega) (by omega)) ?_
            refine wb_pfi 226 rfl (wy_pr rfl) wt_226 wf_8_16 (n := 16) rfl ⟨(by omega), (by omega)⟩ ?_
            refine wa_return rfl ?_
            exact ⟨rfl, Or.inl ⟨by omega, rfl⟩⟩
          · skip
            refine wa_iload_n (n := 3) rfl ?_
            refine wa_ifeq (w_rg0 (by omega) (by omega)) ⟨_, rfl⟩ (fun c11 => ?_) (fun c11 => ?_)
            · skip
              refine wa_iload (n := 4) rfl ?_
              refine wa_ifeq (w_rg0 (by omega) (by omega)) ⟨_, rfl⟩ (fun c12 => ?_) (fun c12 => ?_)
              · skip
                refine wa_aload_n (n := 0) rfl ?_
                refine wb_gf4 158 rfl (wy_pr rfl) wt_158 wf_5_0 (v := 72) wl_158_0 ?_
                refine wa_iload_n (n := 1) rfl ?_
                refine wa_aload_n (n := 0) rfl ?_
                refine wb_gfi 158 rfl (wy_pr rfl) wt_158 wf_5_12 (v := en) (l12) (fun r13 => ?_)
                refine wa_cv 72 rfl (wy_pr rfl) wt_72 (M2 := mS [152]) rfl at_XH_addTrace ⟨_, rfl⟩ rfl rfl ⟨trivial, trivial, trivial, (Or.inr ⟨wy_pr rfl, mS_no rfl⟩), (Or.inr ⟨wy_pr rfl, mS_no rfl⟩), trivial, trivial⟩ trivial (fun _ _ q => mS_sub (by decide) q) (tra (S := S) (m := m) (k := en) hI ⟨by omega, by omega⟩ ⟨by omega, by omega⟩ (by rw [ht15]; exact ht0) (by rw [ht15]; exact ht9)) (fun oq14 Sq14 hp15 q14 => ?_)
                rcases q14 with ⟨rfl, tr14⟩
                show wJ _ _ _ _ _ _ _ _ _ _
                refine wa_aload_n (n := 0) rfl ?_
                refine wa_iconst ?_
                refine wb_pfi 158 rfl (wy_pr rfl) wt_158 wf_5_16 (n := 16) rfl ⟨(by omega), (by omega)⟩ ?_
                refine wa_aload_n (n := 0) rfl ?_
                refine wb_lconst (m := 0) rfl ?_
                refine wb_pfl 158 rfl (wy_pr rfl) wt_158 wf_5_17 (n := 17) rfl ⟨(by omega), (by omega)⟩ ?_
                refine wa_iload_n (n := 3) rfl ?_
                refine wa_ifeq (w_rg0 (by omega) (by omega)) ⟨_, rfl⟩ (fun c16 => ?_) (fun c16 => ?_)
                · skip
                  refine wa_aload_n (n := 2) rfl ?_
                  refine wb_gf4 162 rfl (wy_pr rfl) wt_162 wf_3_3 (v := 185) wl_162_3 ?_
                  refine wa_bipush (w_rg2 (by omega) (by omega)) ?_
                  refine wb_aald5 185 15 rfl rfl (wy_pr rfl) wt_185 (by rw [show _ = _ from ((w_up_slot (by decide)).trans ((w_up_slot (by decide)).trans (((tr14.2.2.2.1 185 (-1) (by decide) (by decide) (by decide) (Or.inl (by decide))).trans ((cl_185 hC))))))]; omega) wl_185_15 ?_
                  refine wa_iload_n (n := 1) rfl ?_
                  refine wb_iald 201 rfl (wy_pr rfl) wt_201 (n := 400) ((w_up_slot (by decide)).trans ((w_up_slot (by decide)).trans (((tr14.2.2.2.1 201 (-1) (by decide) (by decide) (by decide) (Or.inl (by decide))).trans ((cl_201 hC)))))) (by omega) (by omega) (v := (-1)) ((w_up_slot (by decide)).trans ((w_up_slot (by decide)).trans (((tr14.2.2.2.1 201 m (by decide) (by decide) (by decide) (Or.inl (by decide))).trans (hmf))))) (fun r17 => ?_)
                  refine wa_iconst ?_
                  refine wa_icmpeq (w_rg0 (by omega) (by omega)) (w_rg0 (by omega) (by omega)) ⟨_, rfl⟩ (fun c18 => ?_) (fun c18 => ?_)
                  · skip
                    refine wa_aload_n (n := 0) rfl ?_
                    refine wa_iload_n (n := 1) rfl ?_
                    have hf2 : ∀ (j : Nat) (i : Int), j < 4000000 → j ≠ wG → j ≠ 152 → j ≠ 72 → j ≠ 158 → (w_up (w_up Sq14 158 16 0) 158 17 0) j i = S j i := fun j i a b c d e => (w_up_no (fun z => e z.1)).trans ((w_up_no (fun z => e z.1)).trans (tr14.2.2.2.1 j i a b c (Or.inl d)))
                    have el : (w_up (w_up Sq14 158 16 0) 158 17 0) 228 (-1) = S 228 (-1) := (hf2 228 _ (by first | decide | omega) (by first | decide | omega) (by first | decide | omega) (by first | decide | omega) (by first | decide | omega))
                    have el2 : (w_up (w_up Sq14 158 16 0) 158 17 0) 229 (-1) = S 229 (-1) := (hf2 229 _ (by first | decide | omega) (by first | decide | omega) (by first | decide | omega) (by first | decide | omega) (by first | decide | omega))
                    refine wa_cv 158 rfl (wy_pr rfl) wt_158 (M2 := fun _ => False) rfl at_XL_answer ⟨_, rfl⟩ rfl rfl ⟨trivial, trivial, trivial, (Or.inr ⟨wy_pr rfl, fun q => q⟩), (Or.inr ⟨wy_pr rfl, fun q => q⟩), trivial, trivial⟩ trivial (fun _ _ q => False.elim q) (ann_162_226 (S := (w_up (w_up Sq14 158 16 0) 158 17 0)) (m := m) (es := es) (w_CL_up (w_CL_up (CL_tr hC tr14) (by omega)) (by omega)) ((w_up_slot (by decide)).trans ((w_up_slot (by decide)).trans (((tr14.2.2.2.1 72 1 (by decide) (by decide) (by decide) (Or.inr (by decide))).trans (h72))))) ((w_up_at (by decide)).trans ((w_up_at (by decide)).trans (((tr14.2.2.2.1 158 5 (by decide) (by decide) (by decide) (Or.inl (by decide))).trans (l5))))) ((w_up_at (by decide)).trans ((w_up_at (by decide)).trans (((tr14.2.2.2.1 158 8 (by decide) (by decide) (by decide) (Or.inl (by decide))).trans (l8))))) (((w_up_at (by decide)).trans ((w_up_at (by decide)).trans (((tr14.2.2.2.1 158 12 (by decide) (by decide) (by decide) (Or.inl (by decide))).trans (l12))))).trans hel) hm ((w_up_slot (by decide)).trans ((w_up_slot (by decide)).trans (((tr14.2.2.2.1 189 m (by decide) (by decide) (by decide) (Or.inl (by decide))).trans (hmt))))) htr (by rw [el, el2]; exact bl1) (by rw [el]; exact ⟨by omega, by omega, bl3⟩) (fun i hi => ⟨(hf2 228 _ (by decide) (by decide) (by decide) (by decide) (by decide)).trans (hes i hi).1, (hf2 229 _ (by decide) (by decide) (by decide) (by decide) (by decide)).trans (hes i hi).2⟩)) (fun oq19 Sq19 hp20 q19 => ?_)
                    rcases q19 with ⟨rfl, rfl⟩
                    show wJ _ _ _ _ _ _ _ _ _ _
                    refine wa_fall ⟨_, rfl⟩ ?_
                    refine wa_aload_n (n := 0) rfl ?_
                    refine wb_gfi 158 rfl (wy_pr rfl) wt_158 wf_5_7 (v := kd) ((w_up_at (by decide)).trans ((w_up_at (by decide)).trans ((w_up_at (by decide)).trans ((w_up_at (by decide)).trans (((tr14.2.2.2.1 158 7 (by decide) (by decide) (by decide) (Or.inl (by decide))).trans (l7))))))) (fun r21 => ?_)
                    refine wa_iconst ?_
                    refine wa_icmpne (w_rg0 (by omega) (by omega)) (w_rg0 (by omega) (by omega)) ⟨_, rfl⟩ (fun c22 => ?_) (fun c22 => ?_)
                    · skip
                      refine wa_aload_n (n := 0) rfl ?_
                      refine wa_aload_n (n := 0) rfl ?_
                      refine wb_gfi 158 rfl (wy_pr rfl) wt_158 wf_5_16 (v := (anK ty)) ((w_up_at (by decide)).trans (w_up_same _ _ _ _)) (fun r23 => ?_)
                      refine wa_aload_n (n := 0) rfl ?_
                      refine wb_gfl 158 rfl (wy_pr rfl) wt_158 wf_5_17 (v := (anB ty (anS m es))) (w_up_same _ _ _ _) (fun r24 => ?_)
                      refine wa_cv 158 rfl (wy_pr rfl) wt_158 (M2 := mS [228, 229]) rfl at_XL_giveValue ⟨_, rfl⟩ rfl rfl ⟨trivial, trivial, trivial, (Or.inr ⟨wy_pr rfl, mS_no rfl⟩), (Or.inr ⟨wy_pr rfl, mS_no rfl⟩), trivial, trivial⟩ trivial (fun _ _ q => mS_sub (by decide) q) (glx_226 (S := (w_up (w_up (w_up (w_up Sq14 158 16 0) 158 17 0) 158 16 (anK ty)) 158 17 (anB ty (anS m es)))) (k := (anK ty)) (v := (anB ty (anS m es))) (h := h) (c := c) (p := p) (ba := ba) (w_CL_up (w_CL_up (w_CL_up (w_CL_up (CL_tr hC tr14) (by omega)) (by omega)) (by omega)) (by omega)) (gI_up (gI_up (gI_up (gI_up tr14.2.2.2.2.2.1 (by omega) (by omega) (by omega)) (by omega) (by omega) (by omega)) (by omega) (by omega) (by omega)) (by omega) (by omega) (by omega)) ((w_up_at (by decide)).trans ((w_up_at (by decide)).trans ((w_up_at (by decide)).trans ((w_up_at (by decide)).trans (((tr14.2.2.2.1 158 4 (by decide) (by decide) (by decide) (Or.inl (by decide))).trans (l4))))))) ((w_up_at (by decide)).trans ((w_up_at (by decide)).trans ((w_up_at (by decide)).trans ((w_up_at (by decide)).trans (((tr14.2.2.2.1 158 5 (by decide) (by decide) (by decide) (Or.inl (by decide))).trans (l5))))))) ((w_up_at (by decide)).trans ((w_up_at (by decide)).trans ((w_up_at (by decide)).trans ((w_up_at (by decide)).trans (((tr14.2.2.2.1 158 8 (by decide) (by decide) (by decide) (Or.inl (by decide))).trans (l8))))))) ((w_up_slot (by decide)).trans ((w_up_slot (by decide)).trans ((w_up_slot (by decide)).trans ((w_up_slot (by decide)).trans (((tr14.2.2.2.1 226 4 (by decide) (by decide) (by decide) (Or.inl (by decide))).trans (bc))))))) ((w_up_slot (by decide)).trans ((w_up_slot (by decide)).trans ((w_up_slot (by decide)).trans ((w_up_slot (by decide)).trans (((tr14.2.2.2.1 231 (c - 1) (by decide) (by decide) (by decide) (Or.inl (by decide))).trans (bp))))))) ((((w_up_slot (by decide)).trans ((w_up_slot (by decide)).trans ((w_up_slot (by decide)).trans ((w_up_slot (by decide)).trans (((tr14.2.2.2.1 229 (-1) (by decide) (by decide) (by decide) (Or.inl (by decide))).trans (bl1)))))))).trans (((w_up_slot (by decide)).trans ((w_up_slot (by decide)).trans ((w_up_slot (by decide)).trans ((w_up_slot (by decide)).trans (((tr14.2.2.2.1 228 (-1) (by decide) (by decide) (by decide) (Or.inl (by decide))).trans (rfl)))))))).symm) (by have e : (w_up (w_up (w_up (w_up Sq14 158 16 0) 158 17 0) 158 16 (anK ty)) 158 17 (anB ty (anS m es))) 228 (-1) = S 228 (-1) := ((w_up_slot (by decide)).trans ((w_up_slot (by decide)).trans ((w_up_slot (by decide)).trans ((w_up_slot (by decide)).trans (((tr14.2.2.2.1 228 (-1) (by decide) (by decide) (by decide) (Or.inl (by decide))).trans (rfl))))))); rw [e]; exact ⟨bl2, bl3⟩) (by have e : (w_up (w_up (w_up (w_up Sq14 158 16 0) 158 17 0) 158 16 (anK ty)) 158 17 (anB ty (anS m es))) 228 (-1) = S 228 (-1) := ((w_up_slot (by decide)).trans ((w_up_slot (by decide)).trans ((w_up_slot (by decide)).trans ((w_up_slot (by decide)).trans (((tr14.2.2.2.1 228 (-1) (by decide) (by decide) (by decide) (Or.inl (by decide))).trans (rfl))))))); omega) ⟨by omega, by omega⟩ ⟨by omega, by omega⟩ ⟨by omega, by omega⟩ ⟨by omega, by omega⟩) (fun oq25 Sq25 hp26 q25 => ?_)
                      rcases q25 with ⟨rfl, hgv25⟩
                      show wJ _ _ _ _ _ _ _ _ _ _
                      refine wa_return rfl ?_
                      refine ⟨rfl, Or.inr ⟨by omega, Sq14, (w_up (w_up (w_up (w_up Sq14 158 16 0) 158 17 0) 158 16 (anK ty)) 158 17 (anB ty (anS m es))), tr14, ?_, ?_⟩⟩
                      · exact fun j i hji => (w_up_no (by omega)).trans ((w_up_no (by omega)).trans ((w_up_no (by omega)).trans ((w_up_no (by omega)).trans (rfl))))
                      · first | (rw [if_pos (show kd = 1 by omega), if_pos (show kd = 1 by omega)]; exact hgv25) | (rw [if_neg (show ¬ kd = 1 by omega), if_neg (show ¬ kd = 1 by omega)]; exact hgv25)
                    · skip
                      refine wa_aload_n (n := 0) rfl ?_
                      refine wa_aload_n (n := 0) rfl ?_
                      refine wb_gf5 158 rfl (wy_pr rfl) wt_158 wf_5_5 (v := 227) ((w_up_at (by decide)).trans ((w_up_at (by decide)).trans ((w_up_at (by decide)).trans ((w_up_at (by decide)).trans (((tr14.2.2.2.1 158 5 (by decide) (by decide) (by decide) (Or.inl (by decide))).trans (l5))))))) (fun r27 => ?_)
                      refine wb_gf4 227 rfl (wy_pr rfl) wt_227 wf_7_0 (v := 228) wl_227_0 ?_
                      refine wa_aload_n (n := 0) rfl ?_
                      refine wb_gf5 158 rfl (wy_pr rfl) wt_158 wf_5_5 (v := 227) ((w_up_at (by decide)).trans ((w_up_at (by decide)).trans ((w_up_at (by decide)).trans ((w_up_at (by decide)).trans (((tr14.2.2.2.1 158 5 (by decide) (by decide) (by decide) (Or.inl (by decide))).trans (l5))))))) (fun r28 => ?_)
                      refine wb_gfi 227 rfl (wy_pr rfl) wt_227 wf_7_2 (v := h) ((w_up_slot (by decide)).trans ((w_up_slot (by decide)).trans ((w_up_slot (by decide)).trans ((w_up_slot (by decide)).trans (((tr14.2.2.2.1 227 2 (by decide) (by decide) (by decide) (Or.inl (by decide))).trans (bh))))))) (fun r29 => ?_)
                      refine wa_iconst ?_
                      refine wa_isub ?_
                      refine wb_bald 228 rfl (wy_pr rfl) wt_228 (n := (S 228 (-1))) ((w_up_slot (by decide)).trans ((w_up_slot (by decide)).trans ((w_up_slot (by decide)).trans ((w_up_slot (by decide)).trans (((tr14.2.2.2.1 228 (-1) (by decide) (by decide) (by decide) (Or.inl (by decide))).trans (rfl))))))) (by omega) (by omega) (v := ky) ((w_up_slot (by decide)).trans ((w_up_slot (by decide)).trans ((w_up_slot (by decide)).trans ((w_up_slot (by decide)).trans (((tr14.2.2.2.1 228 (h - 1) (by decide) (by decide) (by decide) (Or.inl (by decide))).trans (hky))))))) (fun r30 => ?_)
                      refine wb_pfi 158 rfl (wy_pr rfl) wt_158 wf_5_16 (n := 16) rfl ⟨(by omega), (by omega)⟩ ?_
                      refine wa_aload_n (n := 0) rfl ?_
                      refine wa_aload_n (n := 0) rfl ?_
                      refine wb_gf5 158 rfl (wy_pr rfl) wt_158 wf_5_5 (v := 227) ((w_up_at (by decide)).trans ((w_up_at (by decide)).trans ((w_up_at (by decide)).trans ((w_up_at (by decide)).trans ((w_up_at (by decide)).trans (((tr14.2.2.2.1 158 5 (by decide) (by decide) (by decide) (Or.inl (by decide))).trans (l5)))))))) (fun r31 => ?_)
                      refine wb_gf4 227 rfl (wy_pr rfl) wt_227 wf_7_1 (v := 229) wl_227_1 ?_
                      refine wa_aload_n (n := 0) rfl ?_
                      refine wb_gf5 158 rfl (wy_pr rfl) wt_158 wf_5_5 (v := 227) ((w_up_at (by decide)).trans ((w_up_at (by decide)).trans ((w_up_at (by decide)).trans ((w_up_at (by decide)).trans ((w_up_at (by decide)).trans (((tr14.2.2.2.1 158 5 (by decide) (by decide) (by decide) (Or.inl (by decide))).trans (l5)))))))) (fun r32 => ?_)
                      refine wb_gfi 227 rfl (wy_pr rfl) wt_227 wf_7_2 (v := h) ((w_up_slot (by decide)).trans ((w_up_slot (by decide)).trans ((w_up_slot (by decide)).trans ((w_up_slot (by decide)).trans ((w_up_slot (by decide)).trans (((tr14.2.2.2.1 227 2 (by decide) (by decide) (by decide) (Or.inl (by decide))).trans (bh)))))))) (fun r33 => ?_)
                      refine wa_iconst ?_
                      refine wa_isub ?_
                      refine wb_lald 229 rfl (wy_pr rfl) wt_229 (n := (S 228 (-1))) ((w_up_slot (by decide)).trans ((w_up_slot (by decide)).trans ((w_up_slot (by decide)).trans ((w_up_slot (by decide)).trans ((w_up_slot (by decide)).trans (((tr14.2.2.2.1 229 (-1) (by decide) (by decide) (by decide) (Or.inl (by decide))).trans (bl1)))))))) (by omega) (by omega) (v := vy) ((w_up_slot (by decide)).trans ((w_up_slot (by decide)).trans ((w_up_slot (by decide)).trans ((w_up_slot (by decide)).trans ((w_up_slot (by decide)).trans (((tr14.2.2.2.1 229 (h - 1) (by decide) (by decide) (by decide) (Or.inl (by decide))).trans (hvy)))))))) (fun r34 => ?_)
                      refine wb_pfl 158 rfl (wy_pr rfl) wt_158 wf_5_17 (n := 17) rfl ⟨(by omega), (by omega)⟩ ?_
                      refine wa_fall ⟨_, rfl⟩ ?_
                      refine wa_aload_n (n := 0) rfl ?_
                      refine wa_aload_n (n := 0) rfl ?_
                      refine wb_gfi 158 rfl (wy_pr rfl) wt_158 wf_5_16 (v := ky) ((w_up_at (by decide)).trans (w_up_same _ _ _ _)) (fun r35 => ?_)
                      refine wa_aload_n (n := 0) rfl ?_
                      refine wb_gfl 158 rfl (wy_pr rfl) wt_158 wf_5_17 (v := vy) (w_up_same _ _ _ _) (fun r36 => ?_)
                      refine wa_cv 158 rfl (wy_pr rfl) wt_158 (M2 := mS [228, 229]) rfl at_XL_giveValue ⟨_, rfl⟩ rfl rfl ⟨trivial, trivial, trivial, (Or.inr ⟨wy_pr rfl, mS_no rfl⟩), (Or.inr ⟨wy_pr rfl, mS_no rfl⟩), trivial, trivial⟩ trivial (fun _ _ q => mS_sub (by decide) q) (glx_226 (S := (w_up (w_up (w_up (w_up (w_up (w_up Sq14 158 16 0) 158 17 0) 158 16 (anK ty)) 158 17 (anB ty (anS m es))) 158 16 ky) 158 17 vy)) (k := ky) (v := vy) (h := h) (c := c) (p := p) (ba := ba) (w_CL_up (w_CL_up (w_CL_up (w_CL_up (w_CL_up (w_CL_up (CL_tr hC tr14) (by omega)) (by omega)) (by omega)) (by omega)) (by omega)) (by omega)) (gI_up (gI_up (gI_up (gI_up (gI_up (gI_up tr14.2.2.2.2.2.1 (by omega) (by omega) (by omega)) (by omega) (by omega) (by omega)) (by omega) (by omega) (by omega)) (by omega) (by omega) (by omega)) (by omega) (by omega) (by omega)) (by omega) (by omega) (by omega)) ((w_up_at (by decide)).trans ((w_up_at (by decide)).trans ((w_up_at (by decide)).trans ((w_up_at (by decide)).trans ((w_up_at (by decide)).trans ((w_up_at (by decide)).trans (((tr14.2.2.2.1 158 4 (by decide) (by decide) (by decide) (Or.inl (by decide))).trans (l4))))))))) ((w_up_at (by decide)).trans ((w_up_at (by decide)).trans ((w_up_at (by decide)).trans ((w_up_at (by decide)).trans ((w_up_at (by decide)).trans ((w_up_at (by decide)).trans (((tr14.2.2.2.1 158 5 (by decide) (by decide) (by decide) (Or.inl (by decide))).trans (l5))))))))) ((w_up_at (by decide)).trans ((w_up_at (by decide)).trans ((w_up_at (by decide)).trans ((w_up_at (by decide)).trans ((w_up_at (by decide)).trans ((w_up_at (by decide)).trans (((tr14.2.2.2.1 158 8 (by decide) (by decide) (by decide) (Or.inl (by decide))).trans (l8))))))))) ((w_up_slot (by decide)).trans ((w_up_slot (by decide)).trans ((w_up_slot (by decide)).trans ((w_up_slot (by decide)).trans ((w_up_slot (by decide)).trans ((w_up_slot (by decide)).trans (((tr14.2.2.2.1 226 4 (by decide) (by decide) (by decide) (Or.inl (by decide))).trans (bc))))))))) ((w_up_slot (by decide)).trans ((w_up_slot (by decide)).trans ((w_up_slot (by decide)).trans ((w_up_slot (by decide)).trans ((w_up_slot (by decide)).trans ((w_up_slot (by decide)).trans (((tr14.2.2.2.1 231 (c - 1) (by decide) (by decide) (by decide) (Or.inl (by decide))).trans (bp))))))))) ((((w_up_slot (by decide)).trans ((w_up_slot (by decide)).trans ((w_up_slot (by decide)).trans ((w_up_slot (by decide)).trans ((w_up_slot (by decide)).trans ((w_up_slot (by decide)).trans (((tr14.2.2.2.1 229 (-1) (by decide) (by decide) (by decide) (Or.inl (by decide))).trans (bl1)))))))))).trans (((w_up_slot (by decide)).trans ((w_up_slot (by decide)).trans ((w_up_slot (by decide)).trans ((w_up_slot (by decide)).trans ((w_up_slot (by decide)).trans ((w_up_slot (by decide)).trans (((tr14.2.2.2.1 228 (-1) (by decide) (by decide) (by decide) (Or.inl (by decide))).trans (rfl)))))))))).symm) (by have e : (w_up (w_up (w_up (w_up (w_up (w_up Sq14 158 16 0) 158 17 0) 158 16 (anK ty)) 158 17 (anB ty (anS m es))) 158 16 ky) 158 17 vy) 228 (-1) = S 228 (-1) := ((w_up_slot (by decide)).trans ((w_up_slot (by decide)).trans ((w_up_slot (by decide)).trans ((w_up_slot (by decide)).trans ((w_up_slot (by decide)).trans ((w_up_slot (by decide)).trans (((tr14.2.2.2.1 228 (-1) (by decide) (by decide) (by decide) (Or.inl (by decide))).trans (rfl))))))))); rw [e]; exact ⟨bl2, bl3⟩) (by have e : (w_up (w_up (w_up (w_up (w_up (w_up Sq14 158 16 0) 158 17 0) 158 16 (anK ty)) 158 17 (anB ty (anS m es))) 158 16 ky) 158 17 vy) 228 (-1) = S 228 (-1) := ((w_up_slot (by decide)).trans ((w_up_slot (by decide)).trans ((w_up_slot (by decide)).trans ((w_up_slot (by decide)).trans ((w_up_slot (by decide)).trans ((w_up_slot (by decide)).trans (((tr14.2.2.2.1 228 (-1) (by decide) (by decide) (by decide) (Or.inl (by decide))).trans (rfl))))))))); omega) ⟨by omega, by omega⟩ ⟨by omega, by omega⟩ ⟨by omega, by omega⟩ ⟨by omega, by omega⟩) (fun oq37 Sq37 hp38 q37 => ?_)
                      rcases q37 with ⟨rfl, hgv37⟩
                      show wJ _ _ _ _ _ _ _ _ _ _
                      refine wa_return rfl ?_
                      refine ⟨rfl, Or.inr ⟨by omega, Sq14, (w_up (w_up (w_up (w_up (w_up (w_up Sq14 158 16 0) 158 17 0) 158 16 (anK ty)) 158 17 (anB ty (anS m es))) 158 16 ky) 158 17 vy), tr14, ?_, ?_⟩⟩
                      · exact fun j i hji => (w_up_no (by omega)).trans ((w_up_no (by omega)).trans ((w_up_no (by omega)).trans ((w_up_no (by omega)).trans ((w_up_no (by omega)).trans ((w_up_no (by omega)).trans (rfl))))))
                      · first | (rw [if_pos (show kd = 1 by omega), if_pos (show kd = 1 by omega)]; exact hgv37) | (rw [if_neg (show ¬ kd = 1 by omega), if_neg (show ¬ kd = 1 by omega)]; exact hgv37)
                  · skip
                    exact absurd c18 (by omega)
                · skip
                  exact absurd c16 (by omega)
              · skip
                exact absurd c12 (by omega)
            · skip
              exact absurd c11 (by omega)
        · skip
          exact absurd c7 (by omega)
      · skip
        exact absurd c6 (by omega)
  · skip
    exact absurd c3 (by omega)
set_option maxHeartbeats 4000000 in
theorem cmg1_162_226 {c p h kd ba m en tn ky vy fl fi gb ty vk vb : Int} (hP : xP 226 c p h S) (l4 : S 158 4 = 226) (l5 : S 158 5 = 227) (l7 : S 158 7 = kd) (l8 : S 158 8 = ba) (l12 : S 158 12 = en) (hen : 0 ≤ en ∧ en ≤ 1000) (hba : 0 ≤ ba ∧ ba < h) (h72 : S 72 1 = 162) (hm : 0 ≤ m ∧ m < 400) (hso : S 187 m = 1) (ht15 : S 72 15 = tn) (ht0 : 0 ≤ tn ∧ tn ≤ S 152 (-1) ∧ tn ≤ 100000) (ht9 : 16 ≤ S 152 (-1) ∧ S 152 (-1) ≤ 131072 ∨ (16 ≤ S 152 (-1) ∧ S 152 (-1) ≤ 262143 ∧ tn + 2 ≤ S 152 (-1))) (hky : S 228 (h - 1) = ky) (hvy : S 229 (h - 1) = vy) (hkr : -128 ≤ ky ∧ ky ≤ 127) (hvr : -9223372036854775808 ≤ vy ∧ vy ≤ 9223372036854775807) (hmf : S 201 m = fl) (hfl : 0 ≤ fl ∧ fl < 400) (hstt : S 188 fl = 1) (hfi : S 201 fl = fi) (l10 : S 158 10 = gb) (hmt : S 189 m = ty) (hmc : S 190 m = 0) (hrl : S 207 (-1) = S 206 (-1)) (hrb : 0 ≤ fi ∧ fi < S 206 (-1) ∧ S 206 (-1) ≤ 8388608) (hvk : S 206 fi = vk) (hvb : S 207 fi = vb) (hvr2 : -128 ≤ vk ∧ vk ≤ 127) (hvs : -9223372036854775808 ≤ vb ∧ vb ≤ 9223372036854775807) : wJ (pe_GA xs) wY0 (mS [228, 229, 152]) (d + 6) t_XL_callMember ((pe_at t_XL_callMember.bl 0).getD (0, [])).2 [(0, (2, 158)), (1, (0, m))] [] S (fun o Z => o = .inl none ∧ ((100000 < tn + 2 ∧ w_up S 226 16 99 = Z) ∨ (¬ (100000 < tn + 2) ∧ cmE 226 h c p (h - ba) kd ky vy vk vb m en gvR S Z))) := by
  obtain ⟨⟨hC, hI⟩, ⟨bc, bc0, bc1⟩, ⟨bp, bp0, bp1⟩, ⟨bh, bh0, bh1, bh2⟩, bl1, bl2, bl3⟩ := hP
  replace bp : S 231 (c - 1) = p := bp
  replace bh : S 227 2 = h := bh
  replace bh2 : h ≤ S 228 (-1) := bh2
  replace bl1 : S 229 (-1) = S 228 (-1) := bl1
  replace bl2 : 64 ≤ S 228 (-1) := bl2
  replace bl3 : S 228 (-1) ≤ 4095 := bl3
  refine wa_aload_n (n := 0) rfl ?_
  refine wb_gf4 158 rfl (wy_pr rfl) wt_158 wf_5_0 (v := 72) wl_158_0 ?_
  refine wb_gf5 72 rfl (wy_pr rfl) wt_72 wf_2_1 (v := 162) (h72) (fun r1 => ?_)
  refine wa_astore_n (n := 2) rfl ?_
  refine wa_aload_n (n := 2) rfl ?_
  refine wb_gf4 162 rfl (wy_pr rfl) wt_162 wf_3_3 (v := 185) wl_162_3 ?_
  refine wa_iconst ?_
  refine wb_aald5 185 1 rfl rfl (wy_pr rfl) wt_185 (by rw [show _ = _ from ((cl_185 hC))]; omega) wl_185_1 ?_
  refine wa_iload_n (n := 1) rfl ?_
  refine wb_iald 187 rfl (wy_pr rfl) wt_187 (n := 400) ((cl_187 hC)) (by omega) (by omega) (v := 1) (hso) (fun r2 => ?_)
  refine wa_iconst ?_
  refine wa_icmpne (w_rg0 (by omega) (by omega)) (w_rg0 (by omega) (by omega)) ⟨_, rfl⟩ (fun c3 => ?_) (fun c3 => ?_)
  · skip
    refine wa_iconst ?_
    refine wa_fall ⟨_, rfl⟩ ?_
    refine wa_istore_n (n := 3) rfl ?_
    refine wa_iload_n (n := 3) rfl ?_
    refine wa_ifne (w_rg0 (by omega) (by omega)) ⟨_, rfl⟩ (fun c4 => ?_) (fun c4 => ?_)
    · skip
      exact absurd c4 (by omega)
    · skip
      refine wa_aload_n (n := 2) rfl ?_
      refine wb_gf4 162 rfl (wy_pr rfl) wt_162 wf_3_3 (v := 185) wl_162_3 ?_
      refine wa_iconst ?_
      refine wb_aald5 185 3 rfl rfl (wy_pr rfl) wt_185 (by rw [show _ = _ from ((cl_185 hC))]; omega) wl_185_3 ?_
      refine wa_iload_n (n := 1) rfl ?_
      refine wb_iald 189 rfl (wy_pr rfl) wt_189 (n := 400) ((cl_189 hC)) (by omega) (by omega) (v := ty) (hmt) (fun r5 => ?_)
      refine wa_bipush (w_rg2 (by omega) (by omega)) ?_
      refine wa_icmpne (w_rg0 (by omega) (by omega)) (w_rg0 (by omega) (by omega)) ⟨_, rfl⟩ (fun c6 => ?_) (fun c6 => ?_)
      · skip
        refine wa_iconst ?_
        refine wa_fall ⟨_, rfl⟩ ?_
        refine wa_istore (n := 4) rfl ?_
        refine wa_iload_n (n := 3) rfl ?_
        refine wa_ifeq (w_rg0 (by omega) (by omega)) ⟨_, rfl⟩ (fun c7 => ?_) (fun c7 => ?_)
        · skip
          refine wa_iconst ?_
          refine wa_fall ⟨_, rfl⟩ ?_
          refine wa_istore (n := 5) rfl ?_
          refine wa_aload_n (n := 0) rfl ?_
          refine wb_gf4 158 rfl (wy_pr rfl) wt_158 wf_5_0 (v := 72) wl_158_0 ?_
          refine wb_gfi 72 rfl (wy_pr rfl) wt_72 wf_2_15 (v := tn) (ht15) (fun r8 => ?_)
          refine wa_iconst ?_
          refine wa_iadd ?_
          refine wb_ki (n := 100000) rfl ?_
          refine wa_icmpgt (w_rg0 (by omega) (by omega)) (w_rg0 (by omega) (by omega)) ⟨_, rfl⟩ (fun c9 => ?_) (fun c9 => ?_)
          · skip
            refine wa_aload_n (n := 0) rfl ?_
            refine wb_gf5 158 rfl (wy_pr rfl) wt_158 wf_5_4 (v := 226) (l4) (fun r10 => ?_)
            refine wa_bipush (w_rg2 (by omega) (by omega)) ?_
            refine wb_pfi 226 rfl (wy_pr rfl) wt_226 wf_8_16 (n := 16) rfl ⟨(by omega), (by omega)⟩ ?_
            refine wa_return rfl ?_
            exact ⟨rfl, Or.inl ⟨by omega, rfl⟩⟩
          · skip
            refine wa_iload_n (n := 3) rfl ?_
            refine wa_ifeq (w_rg0 (by omega) (by omega)) ⟨_, rfl⟩ (fun c11 => ?_) (fun c11 => ?_)
            · skip
              refine wa_iload (n := 4) rfl ?_
              refine wa_ifeq (w_rg0 (by omega) (by omega)) ⟨_, rfl⟩ (fun c12 => ?_) (fun c12 => ?_)
              · skip
                refine wa_aload_n (n := 0) rfl ?_
                refine wb_gf4 158 rfl (wy_pr rfl) wt_158 wf_5_0 (v := 72) wl_158_0 ?_
                refine wa_iload_n (n := 1) rfl ?_
                refine wa_aload_n (n := 0) rfl ?_
                refine wb_gfi 158 rfl (wy_pr rfl) wt_158 wf_5_12 (v := en) (l12) (fun r13 => ?_)
                refine wa_cv 72 rfl (wy_pr rfl) wt_72 (M2 := mS [152]) rfl at_XH_addTrace ⟨_, rfl⟩ rfl rfl ⟨trivial, trivial, trivial, (Or.inr ⟨wy_pr rfl, mS_no rfl⟩), (Or.inr ⟨wy_pr rfl, mS_no rfl⟩), trivial, trivial⟩ trivial (fun _ _ q => mS_sub (by decide) q) (tra (S := S) (m := m) (k := en) hI ⟨by omega, by omega⟩ ⟨by omega, by omega⟩ (by rw [ht15]; exact ht0) (by rw [ht15]; exact ht9)) (fun oq14 Sq14 hp15 q14 => ?_)
                rcases q14 with ⟨rfl, tr14⟩
                show wJ _ _ _ _ _ _ _ _ _ _
                refine wa_aload_n (n := 0) rfl ?_
                refine wa_iconst ?_
                refine wb_pfi 158 rfl (wy_pr rfl) wt_158 wf_5_16 (n := 16) rfl ⟨(by omega), (by omega)⟩ ?_
                refine wa_aload_n (n := 0) rfl ?_
                refine wb_lconst (m := 0) rfl ?_
                refine wb_pfl 158 rfl (wy_pr rfl) wt_158 wf_5_17 (n := 17) rfl ⟨(by omega), (by omega)⟩ ?_
                refine wa_iload_n (n := 3) rfl ?_
                refine wa_ifeq (w_rg0 (by omega) (by omega)) ⟨_, rfl⟩ (fun c16 => ?_) (fun c16 => ?_)
                · skip
                  refine wa_aload_n (n := 2) rfl ?_
                  refine wb_gf4 162 rfl (wy_pr rfl) wt_162 wf_3_3 (v := 185) wl_162_3 ?_
                  refine wa_bipush (w_rg2 (by omega) (by omega)) ?_
                  refine wb_aald5 185 15 rfl rfl (wy_pr rfl) wt_185 (by rw [show _ = _ from ((w_up_slot (by decide)).trans ((w_up_slot (by decide)).trans (((tr14.2.2.2.1 185 (-1) (by decide) (by decide) (by decide) (Or.inl (by decide))).trans ((cl_185 hC))))))]; omega) wl_185_15 ?_
                  refine wa_iload_n (n := 1) rfl ?_
                  refine wb_iald 201 rfl (wy_pr rfl) wt_201 (n := 400) ((w_up_slot (by decide)).trans ((w_up_slot (by decide)).trans (((tr14.2.2.2.1 201 (-1) (by decide) (by decide) (by decide) (Or.inl (by decide))).trans ((cl_201 hC)))))) (by omega) (by omega) (v := fl) ((w_up_slot (by decide)).trans ((w_up_slot (by decide)).trans (((tr14.2.2.2.1 201 m (by decide) (by decide) (by decide) (Or.inl (by decide))).trans (hmf))))) (fun r17 => ?_)
                  refine wa_iconst ?_
                  refine wa_icmpeq (w_rg0 (by omega) (by omega)) (w_rg0 (by omega) (by omega)) ⟨_, rfl⟩ (fun c18 => ?_) (fun c18 => ?_)
                  · skip
                    exact absurd c18 (by omega)
                  · skip
                    refine wa_aload_n (n := 0) rfl ?_
                    refine wa_iload_n (n := 1) rfl ?_
                    refine wa_aload_n (n := 2) rfl ?_
                    refine wb_gf4 162 rfl (wy_pr rfl) wt_162 wf_3_3 (v := 185) wl_162_3 ?_
                    refine wa_bipush (w_rg2 (by omega) (by omega)) ?_
                    refine wb_aald5 185 15 rfl rfl (wy_pr rfl) wt_185 (by rw [show _ = _ from ((w_up_slot (by decide)).trans ((w_up_slot (by decide)).trans (((tr14.2.2.2.1 185 (-1) (by decide) (by decide) (by decide) (Or.inl (by decide))).trans ((cl_185 hC))))))]; omega) wl_185_15 ?_
                    refine wa_iload_n (n := 1) rfl ?_
                    refine wb_iald 201 rfl (wy_pr rfl) wt_201 (n := 400) ((w_up_slot (by decide)).trans ((w_up_slot (by decide)).trans (((tr14.2.2.2.1 201 (-1) (by decide) (by decide) (by decide) (Or.inl (by decide))).trans ((cl_201 hC)))))) (by omega) (by omega) (v := fl) ((w_up_slot (by decide)).trans ((w_up_slot (by decide)).trans (((tr14.2.2.2.1 201 m (by decide) (by decide) (by decide) (Or.inl (by decide))).trans (hmf))))) (fun r19 => ?_)
                    have hf2 : ∀ (j : Nat) (i : Int), j < 4000000 → j ≠ wG → j ≠ 152 → j ≠ 72 → j ≠ 158 → (w_up (w_up Sq14 158 16 0) 158 17 0) j i = S j i := fun j i a b c d e => (w_up_no (fun z => e z.1)).trans ((w_up_no (fun z => e z.1)).trans (tr14.2.2.2.1 j i a b c (Or.inl d)))
                    have el : (w_up (w_up Sq14 158 16 0) 158 17 0) 206 (-1) = S 206 (-1) := (hf2 206 _ (by first | decide | omega) (by first | decide | omega) (by first | decide | omega) (by first | decide | omega) (by first | decide | omega))
                    have el2 : (w_up (w_up Sq14 158 16 0) 158 17 0) 207 (-1) = S 207 (-1) := (hf2 207 _ (by first | decide | omega) (by first | decide | omega) (by first | decide | omega) (by first | decide | omega) (by first | decide | omega))
                    refine wa_cv 158 rfl (wy_pr rfl) wt_158 (M2 := fun _ => False) rfl at_XL_useField ⟨_, rfl⟩ rfl rfl ⟨trivial, trivial, trivial, (Or.inr ⟨wy_pr rfl, fun q => q⟩), (Or.inr ⟨wy_pr rfl, fun q => q⟩), trivial, trivial⟩ trivial (fun _ _ q => False.elim q) (usg1_162_226 (S := (w_up (w_up Sq14 158 16 0) 158 17 0)) (m := m) (f := fl) (w_CL_up (w_CL_up (CL_tr hC tr14) (by omega)) (by omega)) ((w_up_slot (by decide)).trans ((w_up_slot (by decide)).trans (((tr14.2.2.2.1 72 1 (by decide) (by decide) (by decide) (Or.inr (by decide))).trans (h72))))) ((w_up_at (by decide)).trans ((w_up_at (by decide)).trans (((tr14.2.2.2.1 158 5 (by decide) (by decide) (by decide) (Or.inl (by decide))).trans (l5))))) ((w_up_at (by decide)).trans ((w_up_at (by decide)).trans (((tr14.2.2.2.1 158 8 (by decide) (by decide) (by decide) (Or.inl (by decide))).trans (l8))))) (((w_up_at (by decide)).trans ((w_up_at (by decide)).trans ((tr14.2.2.2.1 158 10 (by decide) (by decide) (by decide) (Or.inl (by decide)))))).trans l10) hm hfl ((hf2 188 _ (by decide) (by decide) (by decide) (by decide) (by decide)).trans hstt) ((hf2 201 _ (by decide) (by decide) (by decide) (by decide) (by decide)).trans hfi) (by rw [el, el2]; exact hrl) (by rw [el]; exact hrb) ((hf2 190 _ (by decide) (by decide) (by decide) (by decide) (by decide)).trans hmc) ((hf2 206 _ (by decide) (by decide) (by decide) (by decide) (by decide)).trans hvk) ((hf2 207 _ (by decide) (by decide) (by decide) (by decide) (by decide)).trans hvb)) (fun oq20 Sq20 hp21 q20 => ?_)
                    rcases q20 with ⟨rfl, rfl⟩
                    show wJ _ _ _ _ _ _ _ _ _ _
                    refine wa_goto ⟨_, rfl⟩ ?_
                    refine wa_aload_n (n := 0) rfl ?_
                    refine wb_gfi 158 rfl (wy_pr rfl) wt_158 wf_5_7 (v := kd) ((w_up_at (by decide)).trans ((w_up_at (by decide)).trans ((w_up_at (by decide)).trans ((w_up_at (by decide)).trans (((tr14.2.2.2.1 158 7 (by decide) (by decide) (by decide) (Or.inl (by decide))).trans (l7))))))) (fun r22 => ?_)
                    refine wa_iconst ?_
                    refine wa_icmpne (w_rg0 (by omega) (by omega)) (w_rg0 (by omega) (by omega)) ⟨_, rfl⟩ (fun c23 => ?_) (fun c23 => ?_)
                    · skip
                      refine wa_aload_n (n := 0) rfl ?_
                      refine wa_aload_n (n := 0) rfl ?_
                      refine wb_gfi 158 rfl (wy_pr rfl) wt_158 wf_5_16 (v := vk) ((w_up_at (by decide)).trans (w_up_same _ _ _ _)) (fun r24 => ?_)
                      refine wa_aload_n (n := 0) rfl ?_
                      refine wb_gfl 158 rfl (wy_pr rfl) wt_158 wf_5_17 (v := vb) (w_up_same _ _ _ _) (fun r25 => ?_)
                      refine wa_cv 158 rfl (wy_pr rfl) wt_158 (M2 := mS [228, 229]) rfl at_XL_giveValue ⟨_, rfl⟩ rfl rfl ⟨trivial, trivial, trivial, (Or.inr ⟨wy_pr rfl, mS_no rfl⟩), (Or.inr ⟨wy_pr rfl, mS_no rfl⟩), trivial, trivial⟩ trivial (fun _ _ q => mS_sub (by decide) q) (glx_226 (S := (w_up (w_up (w_up (w_up Sq14 158 16 0) 158 17 0) 158 16 vk) 158 17 vb)) (k := vk) (v := vb) (h := h) (c := c) (p := p) (ba := ba) (w_CL_up (w_CL_up (w_CL_up (w_CL_up (CL_tr hC tr14) (by omega)) (by omega)) (by omega)) (by omega)) (gI_up (gI_up (gI_up (gI_up tr14.2.2.2.2.2.1 (by omega) (by omega) (by omega)) (by omega) (by omega) (by omega)) (by omega) (by omega) (by omega)) (by omega) (by omega) (by omega)) ((w_up_at (by decide)).trans ((w_up_at (by decide)).trans ((w_up_at (by decide)).trans ((w_up_at (by decide)).trans (((tr14.2.2.2.1 158 4 (by decide) (by decide) (by decide) (Or.inl (by decide))).trans (l4))))))) ((w_up_at (by decide)).trans ((w_up_at (by decide)).trans ((w_up_at (by decide)).trans ((w_up_at (by decide)).trans (((tr14.2.2.2.1 158 5 (by decide) (by decide) (by decide) (Or.inl (by decide))).trans (l5))))))) ((w_up_at (by decide)).trans ((w_up_at (by decide)).trans ((w_up_at (by decide)).trans ((w_up_at (by decide)).trans (((tr14.2.2.2.1 158 8 (by decide) (by decide) (by decide) (Or.inl (by decide))).trans (l8))))))) ((w_up_slot (by decide)).trans ((w_up_slot (by decide)).trans ((w_up_slot (by decide)).trans ((w_up_slot (by decide)).trans (((tr14.2.2.2.1 226 4 (by decide) (by decide) (by decide) (Or.inl (by decide))).trans (bc))))))) ((w_up_slot (by decide)).trans ((w_up_slot (by decide)).trans ((w_up_slot (by decide)).trans ((w_up_slot (by decide)).trans (((tr14.2.2.2.1 231 (c - 1) (by decide) (by decide) (by decide) (Or.inl (by decide))).trans (bp))))))) ((((w_up_slot (by decide)).trans ((w_up_slot (by decide)).trans ((w_up_slot (by decide)).trans ((w_up_slot (by decide)).trans (((tr14.2.2.2.1 229 (-1) (by decide) (by decide) (by decide) (Or.inl (by decide))).trans (bl1)))))))).trans (((w_up_slot (by decide)).trans ((w_up_slot (by decide)).trans ((w_up_slot (by decide)).trans ((w_up_slot (by decide)).trans (((tr14.2.2.2.1 228 (-1) (by decide) (by decide) (by decide) (Or.inl (by decide))).trans (rfl)))))))).symm) (by have e : (w_up (w_up (w_up (w_up Sq14 158 16 0) 158 17 0) 158 16 vk) 158 17 vb) 228 (-1) = S 228 (-1) := ((w_up_slot (by decide)).trans ((w_up_slot (by decide)).trans ((w_up_slot (by decide)).trans ((w_up_slot (by decide)).trans (((tr14.2.2.2.1 228 (-1) (by decide) (by decide) (by decide) (Or.inl (by decide))).trans (rfl))))))); rw [e]; exact ⟨bl2, bl3⟩) (by have e : (w_up (w_up (w_up (w_up Sq14 158 16 0) 158 17 0) 158 16 vk) 158 17 vb) 228 (-1) = S 228 (-1) := ((w_up_slot (by decide)).trans ((w_up_slot (by decide)).trans ((w_up_slot (by decide)).trans ((w_up_slot (by decide)).trans (((tr14.2.2.2.1 228 (-1) (by decide) (by decide) (by decide) (Or.inl (by decide))).trans (rfl))))))); omega) ⟨by omega, by omega⟩ ⟨by omega, by omega⟩ ⟨by omega, by omega⟩ ⟨by omega, by omega⟩) (fun oq26 Sq26 hp27 q26 => ?_)
                      rcases q26 with ⟨rfl, hgv26⟩
                      show wJ _ _ _ _ _ _ _ _ _ _
                      refine wa_return rfl ?_
                      refine ⟨rfl, Or.inr ⟨by omega, Sq14, (w_up (w_up (w_up (w_up Sq14 158 16 0) 158 17 0) 158 16 vk) 158 17 vb), tr14, ?_, ?_⟩⟩
                      · exact fun j i hji => (w_up_no (by omega)).trans ((w_up_no (by omega)).trans ((w_up_no (by omega)).trans ((w_up_no (by omega)).trans (rfl))))
                      · first | (rw [if_pos (show kd = 1 by omega), if_pos (show kd = 1 by omega)]; exact hgv26) | (rw [if_neg (show ¬ kd = 1 by omega), if_neg (show ¬ kd = 1 by omega)]; exact hgv26)
                    · skip
                      refine wa_aload_n (n := 0) rfl ?_
                      refine wa_aload_n (n := 0) rfl ?_
                      refine wb_gf5 158 rfl (wy_pr rfl) wt_158 wf_5_5 (v := 227) ((w_up_at (by decide)).trans ((w_up_at (by decide)).trans ((w_up_at (by decide)).trans ((w_up_at (by decide)).trans (((tr14.2.2.2.1 158 5 (by decide) (by decide) (by decide) (Or.inl (by decide))).trans (l5))))))) (fun r28 => ?_)
                      refine wb_gf4 227 rfl (wy_pr rfl) wt_227 wf_7_0 (v := 228) wl_227_0 ?_
                      refine wa_aload_n (n := 0) rfl ?_
                      refine wb_gf5 158 rfl (wy_pr rfl) wt_158 wf_5_5 (v := 227) ((w_up_at (by decide)).trans ((w_up_at (by decide)).trans ((w_up_at (by decide)).trans ((w_up_at (by decide)).trans (((tr14.2.2.2.1 158 5 (by decide) (by decide) (by decide) (Or.inl (by decide))).trans (l5))))))) (fun r29 => ?_)
                      refine wb_gfi 227 rfl (wy_pr rfl) wt_227 wf_7_2 (v := h) ((w_up_slot (by decide)).trans ((w_up_slot (by decide)).trans ((w_up_slot (by decide)).trans ((w_up_slot (by decide)).trans (((tr14.2.2.2.1 227 2 (by decide) (by decide) (by decide) (Or.inl (by decide))).trans (bh))))))) (fun r30 => ?_)
                      refine wa_iconst ?_
                      refine wa_isub ?_
                      refine wb_bald 228 rfl (wy_pr rfl) wt_228 (n := (S 228 (-1))) ((w_up_slot (by decide)).trans ((w_up_slot (by decide)).trans ((w_up_slot (by decide)).trans ((w_up_slot (by decide)).trans (((tr14.2.2.2.1 228 (-1) (by decide) (by decide) (by decide) (Or.inl (by decide))).trans (rfl))))))) (by omega) (by omega) (v := ky) ((w_up_slot (by decide)).trans ((w_up_slot (by decide)).trans ((w_up_slot (by decide)).trans ((w_up_slot (by decide)).trans (((tr14.2.2.2.1 228 (h - 1) (by decide) (by decide) (by decide) (Or.inl (by decide))).trans (hky))))))) (fun r31 => ?_)
                      refine wb_pfi 158 rfl (wy_pr rfl) wt_158 wf_5_16 (n := 16) rfl ⟨(by omega), (by omega)⟩ ?_
                      refine wa_aload_n (n := 0) rfl ?_
                      refine wa_aload_n (n := 0) rfl ?_
                      refine wb_gf5 158 rfl (wy_pr rfl) wt_158 wf_5_5 (v := 227) ((w_up_at (by decide)).trans ((w_up_at (by decide)).trans ((w_up_at (by decide)).trans ((w_up_at (by decide)).trans ((w_up_at (by decide)).trans (((tr14.2.2.2.1 158 5 (by decide) (by decide) (by decide) (Or.inl (by decide))).trans (l5)))))))) (fun r32 => ?_)
                      refine wb_gf4 227 rfl (wy_pr rfl) wt_227 wf_7_1 (v := 229) wl_227_1 ?_
                      refine wa_aload_n (n := 0) rfl ?_
                      refine wb_gf5 158 rfl (wy_pr rfl) wt_158 wf_5_5 (v := 227) ((w_up_at (by decide)).trans ((w_up_at (by decide)).trans ((w_up_at (by decide)).trans ((w_up_at (by decide)).trans ((w_up_at (by decide)).trans (((tr14.2.2.2.1 158 5 (by decide) (by decide) (by decide) (Or.inl (by decide))).trans (l5)))))))) (fun r33 => ?_)
                      refine wb_gfi 227 rfl (wy_pr rfl) wt_227 wf_7_2 (v := h) ((w_up_slot (by decide)).trans ((w_up_slot (by decide)).trans ((w_up_slot (by decide)).trans ((w_up_slot (by decide)).trans ((w_up_slot (by decide)).trans (((tr14.2.2.2.1 227 2 (by decide) (by decide) (by decide) (Or.inl (by decide))).trans (bh)))))))) (fun r34 => ?_)
                      refine wa_iconst ?_
                      refine wa_isub ?_
                      refine wb_lald 229 rfl (wy_pr rfl) wt_229 (n := (S 228 (-1))) ((w_up_slot (by decide)).trans ((w_up_slot (by decide)).trans ((w_up_slot (by decide)).trans ((w_up_slot (by decide)).trans ((w_up_slot (by decide)).trans (((tr14.2.2.2.1 229 (-1) (by decide) (by decide) (by decide) (Or.inl (by decide))).trans (bl1)))))))) (by omega) (by omega) (v := vy) ((w_up_slot (by decide)).trans ((w_up_slot (by decide)).trans ((w_up_slot (by decide)).trans ((w_up_slot (by decide)).trans ((w_up_slot (by decide)).trans (((tr14.2.2.2.1 229 (h - 1) (by decide) (by decide) (by decide) (Or.inl (by decide))).trans (hvy)))))))) (fun r35 => ?_)
                      refine wb_pfl 158 rfl (wy_pr rfl) wt_158 wf_5_17 (n := 17) rfl ⟨(by omega), (by omega)⟩ ?_
                      refine wa_fall ⟨_, rfl⟩ ?_
                      refine wa_aload_n (n := 0) rfl ?_
                      refine wa_aload_n (n := 0) rfl ?_
                      refine wb_gfi 158 rfl (wy_pr rfl) wt_158 wf_5_16 (v := ky) ((w_up_at (by decide)).trans (w_up_same _ _ _ _)) (fun r36 => ?_)
                      refine wa_aload_n (n := 0) rfl ?_
                      refine wb_gfl 158 rfl (wy_pr rfl) wt_158 wf_5_17 (v := vy) (w_up_same _ _ _ _) (fun r37 => ?_)
                      refine wa_cv 158 rfl (wy_pr rfl) wt_158 (M2 := mS [228, 229]) rfl at_XL_giveValue ⟨_, rfl⟩ rfl rfl ⟨trivial, trivial, trivial, (Or.inr ⟨wy_pr rfl, mS_no rfl⟩), (Or.inr ⟨wy_pr rfl, mS_no rfl⟩), trivial, trivial⟩ trivial (fun _ _ q => mS_sub (by decide) q) (glx_226 (S := (w_up (w_up (w_up (w_up (w_up (w_up Sq14 158 16 0) 158 17 0) 158 16 vk) 158 17 vb) 158 16 ky) 158 17 vy)) (k := ky) (v := vy) (h := h) (c := c) (p := p) (ba := ba) (w_CL_up (w_CL_up (w_CL_up (w_CL_up (w_CL_up (w_CL_up (CL_tr hC tr14) (by omega)) (by omega)) (by omega)) (by omega)) (by omega)) (by omega)) (gI_up (gI_up (gI_up (gI_up (gI_up (gI_up tr14.2.2.2.2.2.1 (by omega) (by omega) (by omega)) (by omega) (by omega) (by omega)) (by omega) (by omega) (by omega)) (by omega) (by omega) (by omega)) (by omega) (by omega) (by omega)) (by omega) (by omega) (by omega)) ((w_up_at (by decide)).trans ((w_up_at (by decide)).trans ((w_up_at (by decide)).trans ((w_up_at (by decide)).trans ((w_up_at (by decide)).trans ((w_up_at (by decide)).trans (((tr14.2.2.2.1 158 4 (by decide) (by decide) (by decide) (Or.inl (by decide))).trans (l4))))))))) ((w_up_at (by decide)).trans ((w_up_at (by decide)).trans ((w_up_at (by decide)).trans ((w_up_at (by decide)).trans ((w_up_at (by decide)).trans ((w_up_at (by decide)).trans (((tr14.2.2.2.1 158 5 (by decide) (by decide) (by decide) (Or.inl (by decide))).trans (l5))))))))) ((w_up_at (by decide)).trans ((w_up_at (by decide)).trans ((w_up_at (by decide)).trans ((w_up_at (by decide)).trans ((w_up_at (by decide)).trans ((w_up_at (by decide)).trans (((tr14.2.2.2.1 158 8 (by decide) (by decide) (by decide) (Or.inl (by decide))).trans (l8))))))))) ((w_up_slot (by decide)).trans ((w_up_slot (by decide)).trans ((w_up_slot (by decide)).trans ((w_up_slot (by decide)).trans ((w_up_slot (by decide)).trans ((w_up_slot (by decide)).trans (((tr14.2.2.2.1 226 4 (by decide) (by decide) (by decide) (Or.inl (by decide))).trans (bc))))))))) ((w_up_slot (by decide)).trans ((w_up_slot (by decide)).trans ((w_up_slot (by decide)).trans ((w_up_slot (by decide)).trans ((w_up_slot (by decide)).trans ((w_up_slot (by decide)).trans (((tr14.2.2.2.1 231 (c - 1) (by decide) (by decide) (by decide) (Or.inl (by decide))).trans (bp))))))))) ((((w_up_slot (by decide)).trans ((w_up_slot (by decide)).trans ((w_up_slot (by decide)).trans ((w_up_slot (by decide)).trans ((w_up_slot (by decide)).trans ((w_up_slot (by decide)).trans (((tr14.2.2.2.1 229 (-1) (by decide) (by decide) (by decide) (Or.inl (by decide))).trans (bl1)))))))))).trans (((w_up_slot (by decide)).trans ((w_up_slot (by decide)).trans ((w_up_slot (by decide)).trans ((w_up_slot (by decide)).trans ((w_up_slot (by decide)).trans ((w_up_slot (by decide)).trans (((tr14.2.2.2.1 228 (-1) (by decide) (by decide) (by decide) (Or.inl (by decide))).trans (rfl)))))))))).symm) (by have e : (w_up (w_up (w_up (w_up (w_up (w_up Sq14 158 16 0) 158 17 0) 158 16 vk) 158 17 vb) 158 16 ky) 158 17 vy) 228 (-1) = S 228 (-1) := ((w_up_slot (by decide)).trans ((w_up_slot (by decide)).trans ((w_up_slot (by decide)).trans ((w_up_slot (by decide)).trans ((w_up_slot (by decide)).trans ((w_up_slot (by decide)).trans (((tr14.2.2.2.1 228 (-1) (by decide) (by decide) (by decide) (Or.inl (by decide))).trans (rfl))))))))); rw [e]; exact ⟨bl2, bl3⟩) (by have e : (w_up (w_up (w_up (w_up (w_up (w_up Sq14 158 16 0) 158 17 0) 158 16 vk) 158 17 vb) 158 16 ky) 158 17 vy) 228 (-1) = S 228 (-1) := ((w_up_slot (by decide)).trans ((w_up_slot (by decide)).trans ((w_up_slot (by decide)).trans ((w_up_slot (by decide)).trans ((w_up_slot (by decide)).trans ((w_up_slot (by decide)).trans (((tr14.2.2.2.1 228 (-1) (by decide) (by decide) (by decide) (Or.inl (by decide))).trans (rfl))))))))); omega) ⟨by omega, by omega⟩ ⟨by omega, by omega⟩ ⟨by omega, by omega⟩ ⟨by omega, by omega⟩) (fun oq38 Sq38 hp39 q38 => ?_)
                      rcases q38 with ⟨rfl, hgv38⟩
                      show wJ _ _ _ _ _ _ _ _ _ _
                      refine wa_return rfl ?_
                      refine ⟨rfl, Or.inr ⟨by omega, Sq14, (w_up (w_up (w_up (w_up (w_up (w_up Sq14 158 16 0) 158 17 0) 158 16 vk) 158 17 vb) 158 16 ky) 158 17 vy), tr14, ?_, ?_⟩⟩
                      · exact fun j i hji => (w_up_no (by omega)).trans ((w_up_no (by omega)).trans ((w_up_no (by omega)).trans ((w_up_no (by omega)).trans ((w_up_no (by omega)).trans ((w_up_no (by omega)).trans (rfl))))))
                      · first | (rw [if_pos (show kd = 1 by omega), if_pos (show kd = 1 by omega)]; exact hgv38) | (rw [if_neg (show ¬ kd = 1 by omega), if_neg (show ¬ kd = 1 by omega)]; exact hgv38)
                · skip
                  exact absurd c16 (by omega)
              · skip
                exact absurd c12 (by omega)
            · skip
              exact absurd c11 (by omega)
        · skip
          exact absurd c7 (by omega)
      · skip
        refine wa_aload_n (n := 2) rfl ?_
        refine wb_gf4 162 rfl (wy_pr rfl) wt_162 wf_3_3 (v := 185) wl_162_3 ?_
        refine wa_bipush (w_rg2 (by omega) (by omega)) ?_
        refine wb_aald5 185 15 rfl rfl (wy_pr rfl) wt_185 (by rw [show _ = _ from ((cl_185 hC))]; omega) wl_185_15 ?_
        refine wa_iload_n (n := 1) rfl ?_
        refine wb_iald 201 rfl (wy_pr rfl) wt_201 (n := 400) ((cl_201 hC)) (by omega) (by omega) (v := fl) (hmf) (fun r40 => ?_)
        refine wa_iconst ?_
        refine wa_icmpne (w_rg0 (by omega) (by omega)) (w_rg0 (by omega) (by omega)) ⟨_, rfl⟩ (fun c41 => ?_) (fun c41 => ?_)
        · skip
          refine wa_iconst ?_
          refine wa_fall ⟨_, rfl⟩ ?_
          refine wa_istore (n := 4) rfl ?_
          refine wa_iload_n (n := 3) rfl ?_
          refine wa_ifeq (w_rg0 (by omega) (by omega)) ⟨_, rfl⟩ (fun c42 => ?_) (fun c42 => ?_)
          · skip
            refine wa_iconst ?_
            refine wa_fall ⟨_, rfl⟩ ?_
            refine wa_istore (n := 5) rfl ?_
            refine wa_aload_n (n := 0) rfl ?_
            refine wb_gf4 158 rfl (wy_pr rfl) wt_158 wf_5_0 (v := 72) wl_158_0 ?_
            refine wb_gfi 72 rfl (wy_pr rfl) wt_72 wf_2_15 (v := tn) (ht15) (fun r43 => ?_)
            refine wa_iconst ?_
            refine wa_iadd ?_
            refine wb_ki (n := 100000) rfl ?_
            refine wa_icmpgt (w_rg0 (by omega) (by omega)) (w_rg0 (by omega) (by omega)) ⟨_, rfl⟩ (fun c44 => ?_) (fun c44 => ?_)
            · skip
              refine wa_aload_n (n := 0) rfl ?_
              refine wb_gf5 158 rfl (wy_pr rfl) wt_158 wf_5_4 (v := 226) (l4) (fun r45 => ?_)
              refine wa_bipush (w_rg2 (by omega) (by omega)) ?_
              refine wb_pfi 226 rfl (wy_pr rfl) wt_226 wf_8_16 (n := 16) rfl ⟨(by omega), (by omega)⟩ ?_
              refine wa_return rfl ?_
              exact ⟨rfl, Or.inl ⟨by omega, rfl⟩⟩
            · skip
              refine wa_iload_n (n := 3) rfl ?_
              refine wa_ifeq (w_rg0 (by omega) (by omega)) ⟨_, rfl⟩ (fun c46 => ?_) (fun c46 => ?_)
              · skip
                refine wa_iload (n := 4) rfl ?_
                refine wa_ifeq (w_rg0 (by omega) (by omega)) ⟨_, rfl⟩ (fun c47 => ?_) (fun c47 => ?_)
                · skip
                  refine wa_aload_n (n := 0) rfl ?_
                  refine wb_gf4 158 rfl (wy_pr rfl) wt_158 wf_5_0 (v := 72) wl_158_0 ?_
                  refine wa_iload_n (n := 1) rfl ?_
                  refine wa_aload_n (n := 0) rfl ?_
                  refine wb_gfi 158 rfl (wy_pr rfl) wt_158 wf_5_12 (v := en) (l12) (fun r48 => ?_)
                  refine wa_cv 72 rfl (wy_pr rfl) wt_72 (M2 := mS [152]) rfl at_XH_addTrace ⟨_, rfl⟩ rfl rfl ⟨trivial, trivial, trivial, (Or.inr ⟨wy_pr rfl, mS_no rfl⟩), (Or.inr ⟨wy_pr rfl, mS_no rfl⟩), trivial, trivial⟩ trivial (fun _ _ q => mS_sub (by decide) q) (tra (S := S) (m := m) (k := en) hI ⟨by omega, by omega⟩ ⟨by omega, by omega⟩ (by rw [ht15]; exact ht0) (by rw [ht15]; exact ht9)) (fun oq49 Sq49 hp50 q49 => ?_)
                  rcases q49 with ⟨rfl, tr49⟩
                  show wJ _ _ _ _ _ _ _ _ _ _
                  refine wa_aload_n (n := 0) rfl ?_
                  refine wa_iconst ?_
                  refine wb_pfi 158 rfl (wy_pr rfl) wt_158 wf_5_16 (n := 16) rfl ⟨(by omega), (by omega)⟩ ?_
                  refine wa_aload_n (n := 0) rfl ?_
                  refine wb_lconst (m := 0) rfl ?_
                  refine wb_pfl 158 rfl (wy_pr rfl) wt_158 wf_5_17 (n := 17) rfl ⟨(by omega), (by omega)⟩ ?_
                  refine wa_iload_n (n := 3) rfl ?_
                  refine wa_ifeq (w_rg0 (by omega) (by omega)) ⟨_, rfl⟩ (fun c51 => ?_) (fun c51 => ?_)
                  · skip
                    refine wa_aload_n (n := 2) rfl ?_
                    refine wb_gf4 162 rfl (wy_pr rfl) wt_162 wf_3_3 (v := 185) wl_162_3 ?_
                    refine wa_bipush (w_rg2 (by omega) (by omega)) ?_
                    refine wb_aald5 185 15 rfl rfl (wy_pr rfl) wt_185 (by rw [show _ = _ from ((w_up_slot (by decide)).trans ((w_up_slot (by decide)).trans (((tr49.2.2.2.1 185 (-1) (by decide) (by decide) (by decide) (Or.inl (by decide))).trans ((cl_185 hC))))))]; omega) wl_185_15 ?_
                    refine wa_iload_n (n := 1) rfl ?_
                    refine wb_iald 201 rfl (wy_pr rfl) wt_201 (n := 400) ((w_up_slot (by decide)).trans ((w_up_slot (by decide)).trans (((tr49.2.2.2.1 201 (-1) (by decide) (by decide) (by decide) (Or.inl (by decide))).trans ((cl_201 hC)))))) (by omega) (by omega) (v := fl) ((w_up_slot (by decide)).trans ((w_up_slot (by decide)).trans (((tr49.2.2.2.1 201 m (by decide) (by decide) (by decide) (Or.inl (by decide))).trans (hmf))))) (fun r52 => ?_)
                    refine wa_iconst ?_
                    refine wa_icmpeq (w_rg0 (by omega) (by omega)) (w_rg0 (by omega) (by omega)) ⟨_, rfl⟩ (fun c53 => ?_) (fun c53 => ?_)
                    · skip
                      exact absurd c53 (by omega)
                    · skip
                      refine wa_aload_n (n := 0) rfl ?_
                      refine wa_iload_n (n := 1) rfl ?_
                      refine wa_aload_n (n := 2) rfl ?_
                      refine wb_gf4 162 rfl (wy_pr rfl) wt_162 wf_3_3 (v := 185) wl_162_3 ?_
                      refine wa_bipush (w_rg2 (by omega) (by omega)) ?_
                      refine wb_aald5 185 15 rfl rfl (wy_pr rfl) wt_185 (by rw [show _ = _ from ((w_up_slot (by decide)).trans ((w_up_slot (by decide)).trans (((tr49.2.2.2.1 185 (-1) (by decide) (by decide) (by decide) (Or.inl (by decide))).trans ((cl_185 hC))))))]; omega) wl_185_15 ?_
                      refine wa_iload_n (n := 1) rfl ?_
                      refine wb_iald 201 rfl (wy_pr rfl) wt_201 (n := 400) ((w_up_slot (by decide)).trans ((w_up_slot (by decide)).trans (((tr49.2.2.2.1 201 (-1) (by decide) (by decide) (by decide) (Or.inl (by decide))).trans ((cl_201 hC)))))) (by omega) (by omega) (v := fl) ((w_up_slot (by decide)).trans ((w_up_slot (by decide)).trans (((tr49.2.2.2.1 201 m (by decide) (by decide) (by decide) (Or.inl (by decide))).trans (hmf))))) (fun r54 => ?_)
                      have hf2 : ∀ (j : Nat) (i : Int), j < 4000000 → j ≠ wG → j ≠ 152 → j ≠ 72 → j ≠ 158 → (w_up (w_up Sq49 158 16 0) 158 17 0) j i = S j i := fun j i a b c d e => (w_up_no (fun z => e z.1)).trans ((w_up_no (fun z => e z.1)).trans (tr49.2.2.2.1 j i a b c (Or.inl d)))
                      have el : (w_up (w_up Sq49 158 16 0) 158 17 0) 206 (-1) = S 206 (-1) := (hf2 206 _ (by first | decide | omega) (by first | decide | omega) (by first | decide | omega) (by first | decide | omega) (by first | decide | omega))
                      have el2 : (w_up (w_up Sq49 158 16 0) 158 17 0) 207 (-1) = S 207 (-1) := (hf2 207 _ (by first | decide | omega) (by first | decide | omega) (by first | decide | omega) (by first | decide | omega) (by first | decide | omega))
                      refine wa_cv 158 rfl (wy_pr rfl) wt_158 (M2 := fun _ => False) rfl at_XL_useField ⟨_, rfl⟩ rfl rfl ⟨trivial, trivial, trivial, (Or.inr ⟨wy_pr rfl, fun q => q⟩), (Or.inr ⟨wy_pr rfl, fun q => q⟩), trivial, trivial⟩ trivial (fun _ _ q => False.elim q) (usg1_162_226 (S := (w_up (w_up Sq49 158 16 0) 158 17 0)) (m := m) (f := fl) (w_CL_up (w_CL_up (CL_tr hC tr49) (by omega)) (by omega)) ((w_up_slot (by decide)).trans ((w_up_slot (by decide)).trans (((tr49.2.2.2.1 72 1 (by decide) (by decide) (by decide) (Or.inr (by decide))).trans (h72))))) ((w_up_at (by decide)).trans ((w_up_at (by decide)).trans (((tr49.2.2.2.1 158 5 (by decide) (by decide) (by decide) (Or.inl (by decide))).trans (l5))))) ((w_up_at (by decide)).trans ((w_up_at (by decide)).trans (((tr49.2.2.2.1 158 8 (by decide) (by decide) (by decide) (Or.inl (by decide))).trans (l8))))) (((w_up_at (by decide)).trans ((w_up_at (by decide)).trans ((tr49.2.2.2.1 158 10 (by decide) (by decide) (by decide) (Or.inl (by decide)))))).trans l10) hm hfl ((hf2 188 _ (by decide) (by decide) (by decide) (by decide) (by decide)).trans hstt) ((hf2 201 _ (by decide) (by decide) (by decide) (by decide) (by decide)).trans hfi) (by rw [el, el2]; exact hrl) (by rw [el]; exact hrb) ((hf2 190 _ (by decide) (by decide) (by decide) (by decide) (by decide)).trans hmc) ((hf2 206 _ (by decide) (by decide) (by decide) (by decide) (by decide)).trans hvk) ((hf2 207 _ (by decide) (by decide) (by decide) (by decide) (by decide)).trans hvb)) (fun oq55 Sq55 hp56 q55 => ?_)
                      rcases q55 with ⟨rfl, rfl⟩
                      show wJ _ _ _ _ _ _ _ _ _ _
                      refine wa_goto ⟨_, rfl⟩ ?_
                      refine wa_aload_n (n := 0) rfl ?_
                      refine wb_gfi 158 rfl (wy_pr rfl) wt_158 wf_5_7 (v := kd) ((w_up_at (by decide)).trans ((w_up_at (by decide)).trans ((w_up_at (by decide)).trans ((w_up_at (by decide)).trans (((tr49.2.2.2.1 158 7 (by decide) (by decide) (by decide) (Or.inl (by decide))).trans (l7))))))) (fun r57 => ?_)
                      refine wa_iconst ?_
                      refine wa_icmpne (w_rg0 (by omega) (by omega)) (w_rg0 (by omega) (by omega)) ⟨_, rfl⟩ (fun c58 => ?_) (fun c58 => ?_)
                      · skip
                        refine wa_aload_n (n := 0) rfl ?_
                        refine wa_aload_n (n := 0) rfl ?_
                        refine wb_gfi 158 rfl (wy_pr rfl) wt_158 wf_5_16 (v := vk) ((w_up_at (by decide)).trans (w_up_same _ _ _ _)) (fun r59 => ?_)
                        refine wa_aload_n (n := 0) rfl ?_
                        refine wb_gfl 158 rfl (wy_pr rfl) wt_158 wf_5_17 (v := vb) (w_up_same _ _ _ _) (fun r60 => ?_)
                        refine wa_cv 158 rfl (wy_pr rfl) wt_158 (M2 := mS [228, 229]) rfl at_XL_giveValue ⟨_, rfl⟩ rfl rfl ⟨trivial, trivial, trivial, (Or.inr ⟨wy_pr rfl, mS_no rfl⟩), (Or.inr ⟨wy_pr rfl, mS_no rfl⟩), trivial, trivial⟩ trivial (fun _ _ q => mS_sub (by decide) q) (glx_226 (S := (w_up (w_up (w_up (w_up Sq49 158 16 0) 158 17 0) 158 16 vk) 158 17 vb)) (k := vk) (v := vb) (h := h) (c := c) (p := p) (ba := ba) (w_CL_up (w_CL_up (w_CL_up (w_CL_up (CL_tr hC tr49) (by omega)) (by omega)) (by omega)) (by omega)) (gI_up (gI_up (gI_up (gI_up tr49.2.2.2.2.2.1 (by omega) (by omega) (by omega)) (by omega) (by omega) (by omega)) (by omega) (by omega) (by omega)) (by omega) (by omega) (by omega)) ((w_up_at (by decide)).trans ((w_up_at (by decide)).trans ((w_up_at (by decide)).trans ((w_up_at (by decide)).trans (((tr49.2.2.2.1 158 4 (by decide) (by decide) (by decide) (Or.inl (by decide))).trans (l4))))))) ((w_up_at (by decide)).trans ((w_up_at (by decide)).trans ((w_up_at (by decide)).trans ((w_up_at (by decide)).trans (((tr49.2.2.2.1 158 5 (by decide) (by decide) (by decide) (Or.inl (by decide))).trans (l5))))))) ((w_up_at (by decide)).trans ((w_up_at (by decide)).trans ((w_up_at (by decide)).trans ((w_up_at (by decide)).trans (((tr49.2.2.2.1 158 8 (by decide) (by decide) (by decide) (Or.inl (by decide))).trans (l8))))))) ((w_up_slot (by decide)).trans ((w_up_slot (by decide)).trans ((w_up_slot (by decide)).trans ((w_up_slot (by decide)).trans (((tr49.2.2.2.1 226 4 (by decide) (by decide) (by decide) (Or.inl (by decide))).trans (bc))))))) ((w_up_slot (by decide)).trans ((w_up_slot (by decide)).trans ((w_up_slot (by decide)).trans ((w_up_slot (by decide)).trans (((tr49.2.2.2.1 231 (c - 1) (by decide) (by decide) (by decide) (Or.inl (by decide))).trans (bp))))))) ((((w_up_slot (by decide)).trans ((w_up_slot (by decide)).trans ((w_up_slot (by decide)).trans ((w_up_slot (by decide)).trans (((tr49.2.2.2.1 229 (-1) (by decide) (by decide) (by decide) (Or.inl (by decide))).trans (bl1)))))))).trans (((w_up_slot (by decide)).trans ((w_up_slot (by decide)).trans ((w_up_slot (by decide)).trans ((w_up_slot (by decide)).trans (((tr49.2.2.2.1 228 (-1) (by decide) (by decide) (by decide) (Or.inl (by decide))).trans (rfl)))))))).symm) (by have e : (w_up (w_up (w_up (w_up Sq49 158 16 0) 158 17 0) 158 16 vk) 158 17 vb) 228 (-1) = S 228 (-1) := ((w_up_slot (by decide)).trans ((w_up_slot (by decide)).trans ((w_up_slot (by decide)).trans ((w_up_slot (by decide)).trans (((tr49.2.2.2.1 228 (-1) (by decide) (by decide) (by decide) (Or.inl (by decide))).trans (rfl))))))); rw [e]; exact ⟨bl2, bl3⟩) (by have e : (w_up (w_up (w_up (w_up Sq49 158 16 0) 158 17 0) 158 16 vk) 158 17 vb) 228 (-1) = S 228 (-1) := ((w_up_slot (by decide)).trans ((w_up_slot (by decide)).trans ((w_up_slot (by decide)).trans ((w_up_slot (by decide)).trans (((tr49.2.2.2.1 228 (-1) (by decide) (by decide) (by decide) (Or.inl (by decide))).trans (rfl))))))); omega) ⟨by omega, by omega⟩ ⟨by omega, by omega⟩ ⟨by omega, by omega⟩ ⟨by omega, by omega⟩) (fun oq61 Sq61 hp62 q61 => ?_)
                        rcases q61 with ⟨rfl, hgv61⟩
                        show wJ _ _ _ _ _ _ _ _ _ _
                        refine wa_return rfl ?_
                        refine ⟨rfl, Or.inr ⟨by omega, Sq49, (w_up (w_up (w_up (w_up Sq49 158 16 0) 158 17 0) 158 16 vk) 158 17 vb), tr49, ?_, ?_⟩⟩
                        · exact fun j i hji => (w_up_no (by omega)).trans ((w_up_no (by omega)).trans ((w_up_no (by omega)).trans ((w_up_no (by omega)).trans (rfl))))
                        · first | (rw [if_pos (show kd = 1 by omega), if_pos (show kd = 1 by omega)]; exact hgv61) | (rw [if_neg (show ¬ kd = 1 by omega), if_neg (show ¬ kd = 1 by omega)]; exact hgv61)
                      · skip
                        refine wa_aload_n (n := 0) rfl ?_
                        refine wa_aload_n (n := 0) rfl ?_
                        refine wb_gf5 158 rfl (wy_pr rfl) wt_158 wf_5_5 (v := 227) ((w_up_at (by decide)).trans ((w_up_at (by decide)).trans ((w_up_at (by decide)).trans ((w_up_at (by decide)).trans (((tr49.2.2.2.1 158 5 (by decide) (by decide) (by decide) (Or.inl (by decide))).trans (l5))))))) (fun r63 => ?_)
                        refine wb_gf4 227 rfl (wy_pr rfl) wt_227 wf_7_0 (v := 228) wl_227_0 ?_
                        refine wa_aload_n (n := 0) rfl ?_
                        refine wb_gf5 158 rfl (wy_pr rfl) wt_158 wf_5_5 (v := 227) ((w_up_at (by decide)).trans ((w_up_at (by decide)).trans ((w_up_at (by decide)).trans ((w_up_at (by decide)).trans (((tr49.2.2.2.1 158 5 (by decide) (by decide) (by decide) (Or.inl (by decide))).trans (l5))))))) (fun r64 => ?_)
                        refine wb_gfi 227 rfl (wy_pr rfl) wt_227 wf_7_2 (v := h) ((w_up_slot (by decide)).trans ((w_up_slot (by decide)).trans ((w_up_slot (by decide)).trans ((w_up_slot (by decide)).trans (((tr49.2.2.2.1 227 2 (by decide) (by decide) (by decide) (Or.inl (by decide))).trans (bh))))))) (fun r65 => ?_)
                        refine wa_iconst ?_
                        refine wa_isub ?_
                        refine wb_bald 228 rfl (wy_pr rfl) wt_228 (n := (S 228 (-1))) ((w_up_slot (by decide)).trans ((w_up_slot (by decide)).trans ((w_up_slot (by decide)).trans ((w_up_slot (by decide)).trans (((tr49.2.2.2.1 228 (-1) (by decide) (by decide) (by decide) (Or.inl (by decide))).trans (rfl))))))) (by omega) (by omega) (v := ky) ((w_up_slot (by decide)).trans ((w_up_slot (by decide)).trans ((w_up_slot (by decide)).trans ((w_up_slot (by decide)).trans (((tr49.2.2.2.1 228 (h - 1) (by decide) (by decide) (by decide) (Or.inl (by decide))).trans (hky))))))) (fun r66 => ?_)
                        refine wb_pfi 158 rfl (wy_pr rfl) wt_158 wf_5_16 (n := 16) rfl ⟨(by omega), (by omega)⟩ ?_
                        refine wa_aload_n (n := 0) rfl ?_
                        refine wa_aload_n (n := 0) rfl ?_
                        refine wb_gf5 158 rfl (wy_pr rfl) wt_158 wf_5_5 (v := 227) ((w_up_at (by decide)).trans ((w_up_at (by decide)).trans ((w_up_at (by decide)).trans ((w_up_at (by decide)).trans ((w_up_at (by decide)).trans (((tr49.2.2.2.1 158 5 (by decide) (by decide) (by decide) (Or.inl (by decide))).trans (l5)))))))) (fun r67 => ?_)
                        refine wb_gf4 227 rfl (wy_pr rfl) wt_227 wf_7_1 (v := 229) wl_227_1 ?_
                        refine wa_aload_n (n := 0) rfl ?_
                        refine wb_gf5 158 rfl (wy_pr rfl) wt_158 wf_5_5 (v := 227) ((w_up_at (by decide)).trans ((w_up_at (by decide)).trans ((w_up_at (by decide)).trans ((w_up_at (by decide)).trans ((w_up_at (by decide)).trans (((tr49.2.2.2.1 158 5 (by decide) (by decide) (by decide) (Or.inl (by decide))).trans (l5)))))))) (fun r68 => ?_)
                        refine wb_gfi 227 rfl (wy_pr rfl) wt_227 wf_7_2 (v := h) ((w_up_slot (by decide)).trans ((w_up_slot (by decide)).trans ((w_up_slot (by decide)).trans ((w_up_slot (by decide)).trans ((w_up_slot (by decide)).trans (((tr49.2.2.2.1 227 2 (by decide) (by decide) (by decide) (Or.inl (by decide))).trans (bh)))))))) (fun r69 => ?_)
                        refine wa_iconst ?_
                        refine wa_isub ?_
                        refine wb_lald 229 rfl (wy_pr rfl) wt_229 (n := (S 228 (-1))) ((w_up_slot (by decide)).trans ((w_up_slot (by decide)).trans ((w_up_slot (by decide)).trans ((w_up_slot (by decide)).trans ((w_up_slot (by decide)).trans (((tr49.2.2.2.1 229 (-1) (by decide) (by decide) (by decide) (Or.inl (by decide))).trans (bl1)))))))) (by omega) (by omega) (v := vy) ((w_up_slot (by decide)).trans ((w_up_slot (by decide)).trans ((w_up_slot (by decide)).trans ((w_up_slot (by decide)).trans ((w_up_slot (by decide)).trans (((tr49.2.2.2.1 229 (h - 1) (by decide) (by decide) (by decide) (Or.inl (by decide))).trans (hvy)))))))) (fun r70 => ?_)
                        refine wb_pfl 158 rfl (wy_pr rfl) wt_158 wf_5_17 (n := 17) rfl ⟨(by omega), (by omega)⟩ ?_
                        refine wa_fall ⟨_, rfl⟩ ?_
                        refine wa_aload_n (n := 0) rfl ?_
                        refine wa_aload_n (n := 0) rfl ?_
                        refine wb_gfi 158 rfl (wy_pr rfl) wt_158 wf_5_16 (v := ky) ((w_up_at (by decide)).trans (w_up_same _ _ _ _)) (fun r71 => ?_)
                        refine wa_aload_n (n := 0) rfl ?_
                        refine wb_gfl 158 rfl (wy_pr rfl) wt_158 wf_5_17 (v := vy) (w_up_same _ _ _ _) (fun r72 => ?_)
                        refine wa_cv 158 rfl (wy_pr rfl) wt_158 (M2 := mS [228, 229]) rfl at_XL_giveValue ⟨_, rfl⟩ rfl rfl ⟨trivial, trivial, trivial, (Or.inr ⟨wy_pr rfl, mS_no rfl⟩), (Or.inr ⟨wy_pr rfl, mS_no rfl⟩), trivial, trivial⟩ trivial (fun _ _ q => mS_sub (by decide) q) (glx_226 (S := (w_up (w_up (w_up (w_up (w_up (w_up Sq49 158 16 0) 158 17 0) 158 16 vk) 158 17 vb) 158 16 ky) 158 17 vy)) (k := ky) (v := vy) (h := h) (c := c) (p := p) (ba := ba) (w_CL_up (w_CL_up (w_CL_up (w_CL_up (w_CL_up (w_CL_up (CL_tr hC tr49) (by omega)) (by omega)) (by omega)) (by omega)) (by omega)) (by omega)) (gI_up (gI_up (gI_up (gI_up (gI_up (gI_up tr49.2.2.2.2.2.1 (by omega) (by omega) (by omega)) (by omega) (by omega) (by omega)) (by omega) (by omega) (by omega)) (by omega) (by omega) (by omega)) (by omega) (by omega) (by omega)) (by omega) (by omega) (by omega)) ((w_up_at (by decide)).trans ((w_up_at (by decide)).trans ((w_up_at (by decide)).trans ((w_up_at (by decide)).trans ((w_up_at (by decide)).trans ((w_up_at (by decide)).trans (((tr49.2.2.2.1 158 4 (by decide) (by decide) (by decide) (Or.inl (by decide))).trans (l4))))))))) ((w_up_at (by decide)).trans ((w_up_at (by decide)).trans ((w_up_at (by decide)).trans ((w_up_at (by decide)).trans ((w_up_at (by decide)).trans ((w_up_at (by decide)).trans (((tr49.2.2.2.1 158 5 (by decide) (by decide) (by decide) (Or.inl (by decide))).trans (l5))))))))) ((w_up_at (by decide)).trans ((w_up_at (by decide)).trans ((w_up_at (by decide)).trans ((w_up_at (by decide)).trans ((w_up_at (by decide)).trans ((w_up_at (by decide)).trans (((tr49.2.2.2.1 158 8 (by decide) (by decide) (by decide) (Or.inl (by decide))).trans (l8))))))))) ((w_up_slot (by decide)).trans ((w_up_slot (by decide)).trans ((w_up_slot (by decide)).trans ((w_up_slot (by decide)).trans ((w_up_slot (by decide)).trans ((w_up_slot (by decide)).trans (((tr49.2.2.2.1 226 4 (by decide) (by decide) (by decide) (Or.inl (by decide))).trans (bc))))))))) ((w_up_slot (by decide)).trans ((w_up_slot (by decide)).trans ((w_up_slot (by decide)).trans ((w_up_slot (by decide)).trans ((w_up_slot (by decide)).trans ((w_up_slot (by decide)).trans (((tr49.2.2.2.1 231 (c - 1) (by decide) (by decide) (by decide) (Or.inl (by decide))).trans (bp))))))))) ((((w_up_slot (by decide)).trans ((w_up_slot (by decide)).trans ((w_up_slot (by decide)).trans ((w_up_slot (by decide)).trans ((w_up_slot (by decide)).trans ((w_up_slot (by decide)).trans (((tr49.2.2.2.1 229 (-1) (by decide) (by decide) (by decide) (Or.inl (by decide))).trans (bl1)))))))))).trans (((w_up_slot (by decide)).trans ((w_up_slot (by decide)).trans ((w_up_slot (by decide)).trans ((w_up_slot (by decide)).trans ((w_up_slot (by decide)).trans ((w_up_slot (by decide)).trans (((tr49.2.2.2.1 228 (-1) (by decide) (by decide) (by decide) (Or.inl (by decide))).trans (rfl)))))))))).symm) (by have e : (w_up (w_up (w_up (w_up (w_up (w_up Sq49 158 16 0) 158 17 0) 158 16 vk) 158 17 vb) 158 16 ky) 158 17 vy) 228 (-1) = S 228 (-1) := ((w_up_slot (by decide)).trans ((w_up_slot (by decide)).trans ((w_up_slot (by decide)).trans ((w_up_slot (by decide)).trans ((w_up_slot (by decide)).trans ((w_up_slot (by decide)).trans (((tr49.2.2.2.1 228 (-1) (by decide) (by decide) (by decide) (Or.inl (by decide))).trans (rfl))))))))); rw [e]; exact ⟨bl2, bl3⟩) (by have e : (w_up (w_up (w_up (w_up (w_up (w_up Sq49 158 16 0) 158 17 0) 158 16 vk) 158 17 vb) 158 16 ky) 158 17 vy) 228 (-1) = S 228 (-1) := ((w_up_slot (by decide)).trans ((w_up_slot (by decide)).trans ((w_up_slot (by decide)).trans ((w_up_slot (by decide)).trans ((w_up_slot (by decide)).trans ((w_up_slot (by decide)).trans (((tr49.2.2.2.1 228 (-1) (by decide) (by decide) (by decide) (Or.inl (by decide))).trans (rfl))))))))); omega) ⟨by omega, by omega⟩ ⟨by omega, by omega⟩ ⟨by omega, by omega⟩ ⟨by omega, by omega⟩) (fun oq73 Sq73 hp74 q73 => ?_)
                        rcases q73 with ⟨rfl, hgv73⟩
                        show wJ _ _ _ _ _ _ _ _ _ _
                        refine wa_return rfl ?_
                        refine ⟨rfl, Or.inr ⟨by omega, Sq49, (w_up (w_up (w_up (w_up (w_up (w_up Sq49 158 16 0) 158 17 0) 158 16 vk) 158 17 vb) 158 16 ky) 158 17 vy), tr49, ?_, ?_⟩⟩
                        · exact fun j i hji => (w_up_no (by omega)).trans ((w_up_no (by omega)).trans ((w_up_no (by omega)).trans ((w_up_no (by omega)).trans ((w_up_no (by omega)).trans ((w_up_no (by omega)).trans (rfl))))))
                        · first | (rw [if_pos (show kd = 1 by omega), if_pos (show kd = 1 by omega)]; exact hgv73) | (rw [if_neg (show ¬ kd = 1 by omega), if_neg (show ¬ kd = 1 by omega)]; exact hgv73)
                  · skip
                    exact absurd c51 (by omega)
                · skip
                  exact absurd c47 (by omega)
              · skip
                exact absurd c46 (by omega)
          · skip
            exact absurd c42 (by omega)
        · skip
          exact absurd c41 (by omega)
  · skip
    exact absurd c3 (by omega)
set_option maxHeartbeats 4000000 in
theorem cms1_162_226 {c p h kd ba m en tn ky vy fl fi gb ty k1 v1 : Int} (hP : xP 226 c p h S) (l4 : S 158 4 = 226) (l5 : S 158 5 = 227) (l7 : S 158 7 = kd) (l8 : S 158 8 = ba) (l12 : S 158 12 = en) (hen : 0 ≤ en ∧ en ≤ 1000) (hba : 0 ≤ ba ∧ ba < h) (h72 : S 72 1 = 162) (hm : 0 ≤ m ∧ m < 400) (hso : S 187 m = 1) (ht15 : S 72 15 = tn) (ht0 : 0 ≤ tn ∧ tn ≤ S 152 (-1) ∧ tn ≤ 100000) (ht9 : 16 ≤ S 152 (-1) ∧ S 152 (-1) ≤ 131072 ∨ (16 ≤ S 152 (-1) ∧ S 152 (-1) ≤ 262143 ∧ tn + 2 ≤ S 152 (-1))) (hky : S 228 (h - 1) = ky) (hvy : S 229 (h - 1) = vy) (hkr : -128 ≤ ky ∧ ky ≤ 127) (hvr : -9223372036854775808 ≤ vy ∧ vy ≤ 9223372036854775807) (hmf : S 201 m = fl) (hfl : 0 ≤ fl ∧ fl < 400) (hstt : S 188 fl = 1) (hfi : S 201 fl = fi) (l10 : S 158 10 = gb) (hmt : S 189 m = ty) (hmc : S 190 m = 1) (hrl : S 207 (-1) = S 206 (-1)) (hrb : 0 ≤ fi ∧ fi < S 206 (-1) ∧ S 206 (-1) ≤ 8388608) (hb1 : ba + 1 < h) (hk1 : S 228 (ba + 1) = k1) (hv1 : S 229 (ba + 1) = v1) : wJ (pe_GA xs) wY0 (mS [228, 229, 152]) (d + 6) t_XL_callMember ((pe_at t_XL_callMember.bl 0).getD (0, [])).2 [(0, (2, 158)), (1, (0, m))] [] S (fun o Z => o = .inl none ∧ ((100000 < tn + 2 ∧ w_up S 226 16 99 = Z) ∨ (¬ (100000 < tn + 2) ∧ cmE 226 h c p (h - ba) kd ky vy 0 0 m en (fun A B => gvR (w_up (w_up A 206 fi k1) 207 fi v1) B) S Z))) := by
  obtain ⟨⟨hC, hI⟩, ⟨bc, bc0, bc1⟩, ⟨bp, bp0, bp1⟩, ⟨bh, bh0, bh1, bh2⟩, bl1, bl2, bl3⟩ := hP
  replace bp : S 231 (c - 1) = p := bp
  replace bh : S 227 2 = h := bh
  replace bh2 : h ≤ S 228 (-1) := bh2
  replace bl1 : S 229 (-1) = S 228 (-1) := bl1
  replace bl2 : 64 ≤ S 228 (-1) := bl2
  replace bl3 : S 228 (-1) ≤ 4095 := bl3
  refine wa_aload_n (n := 0) rfl ?_
  refine wb_gf4 158 rfl (wy_pr rfl) wt_158 wf_5_0 (v := 72) wl_158_0 ?_
  refine wb_gf5 72 rfl (wy_pr rfl) wt_72 wf_2_1 (v := 162) (h72) (fun r1 => ?_)
  refine wa_astore_n (n := 2) rfl ?_
  refine wa_aload_n (n := 2) rfl ?_
  refine wb_gf4 162 rfl (wy_pr rfl) wt_162 wf_3_3 (v := 185) wl_162_3 ?_
  refine wa_iconst ?_
  refine wb_aald5 185 1 rfl rfl (wy_pr rfl) wt_185 (by rw [show _ = _ from ((cl_185 hC))]; omega) wl_185_1 ?_
  refine wa_iload_n (n := 1) rfl ?_
  refine wb_iald 187 rfl (wy_pr rfl) wt_187 (n := 400) ((cl_187 hC)) (by omega) (by omega) (v := 1) (hso) (fun r2 => ?_)
  refine wa_iconst ?_
  refine wa_icmpne (w_rg0 (by omega) (by omega)) (w_rg0 (by omega) (by omega)) ⟨_, rfl⟩ (fun c3 => ?_) (fun c3 => ?_)
  · skip
    refine wa_iconst ?_
    refine wa_fall ⟨_, rfl⟩ ?_
    refine wa_istore_n (n := 3) rfl ?_
    refine wa_iload_n (n := 3) rfl ?_
    refine wa_ifne (w_rg0 (by omega) (by omega)) ⟨_, rfl⟩ (fun c4 => ?_) (fun c4 => ?_)
    · skip
      exact absurd c4 (by omega)
    · skip
      refine wa_aload_n (n := 2) rfl ?_
      refine wb_gf4 162 rfl (wy_pr rfl) wt_162 wf_3_3 (v := 185) wl_162_3 ?_
      refine wa_iconst ?_
      refine wb_aald5 185 3 rfl rfl (wy_pr rfl) wt_185 (by rw [show _ = _ from ((cl_185 hC))]; omega) wl_185_3 ?_
      refine wa_iload_n (n := 1) rfl ?_
      refine wb_iald 189 rfl (wy_pr rfl) wt_189 (n := 400) ((cl_189 hC)) (by omega) (by omega) (v := ty) (hmt) (fun r5 => ?_)
      refine wa_bipush (w_rg2 (by omega) (by omega)) ?_
      refine wa_icmpne (w_rg0 (by omega) (by omega)) (w_rg0 (by omega) (by omega)) ⟨_, rfl⟩ (fun c6 => ?_) (fun c6 => ?_)
      · skip
        refine wa_iconst ?_
        refine wa_fall ⟨_, rfl⟩ ?_
        refine wa_istore (n := 4) rfl ?_
        refine wa_iload_n (n := 3) rfl ?_
        refine wa_ifeq (w_rg0 (by omega) (by omega)) ⟨_, rfl⟩ (fun c7 => ?_) (fun c7 => ?_)
        · skip
          refine wa_iconst ?_
          refine wa_fall ⟨_, rfl⟩ ?_
          refine wa_istore (n := 5) rfl ?_
          refine wa_aload_n (n := 0) rfl ?_
          refine wb_gf4 158 rfl (wy_pr rfl) wt_158 wf_5_0 (v := 72) wl_158_0 ?_
          refine wb_gfi 72 rfl (wy_pr rfl) wt_72 wf_2_15 (v := tn) (ht15) (fun r8 => ?_)
          refine wa_iconst ?_
          refine wa_iadd ?_
          refine wb_ki (n := 100000) rfl ?_
          refine wa_icmpgt (w_rg0 (by omega) (by omega)) (w_rg0 (by omega) (by omega)) ⟨_, rfl⟩ (fun c9 => ?_) (fun c9 => ?_)
          · skip
            refine wa_aload_n (n := 0) rfl ?_
            refine wb_gf5 158 rfl (wy_pr rfl) wt_158 wf_5_4 (v := 226) (l4) (fun r10 => ?_)
            refine wa_bipush (w_rg2 (by omega) (by omega)) ?_
            refine wb_pfi 226 rfl (wy_pr rfl) wt_226 wf_8_16 (n := 16) rfl ⟨(by omega), (by omega)⟩ ?_
            refine wa_return rfl ?_
            exact ⟨rfl, Or.inl ⟨by omega, rfl⟩⟩
          · skip
            refine wa_iload_n (n := 3) rfl ?_
            refine wa_ifeq (w_rg0 (by omega) (by omega)) ⟨_, rfl⟩ (fun c11 => ?_) (fun c11 => ?_)
            · skip
              refine wa_iload (n := 4) rfl ?_
              refine wa_ifeq (w_rg0 (by omega) (by omega)) ⟨_, rfl⟩ (fun c12 => ?_) (fun c12 => ?_)
              · skip
                refine wa_aload_n (n := 0) rfl ?_
                refine wb_gf4 158 rfl (wy_pr rfl) wt_158 wf_5_0 (v := 72) wl_158_0 ?_
                refine wa_iload_n (n := 1) rfl ?_
                refine wa_aload_n (n := 0) rfl ?_
                refine wb_gfi 158 rfl (wy_pr rfl) wt_158 wf_5_12 (v := en) (l12) (fun r13 => ?_)
                refine wa_cv 72 rfl (wy_pr rfl) wt_72 (M2 := mS [152]) rfl at_XH_addTrace ⟨_, rfl⟩ rfl rfl ⟨trivial, trivial, trivial, (Or.inr ⟨wy_pr rfl, mS_no rfl⟩), (Or.inr ⟨wy_pr rfl, mS_no rfl⟩), trivial, trivial⟩ trivial (fun _ _ q => mS_sub (by decide) q) (tra (S := S) (m := m) (k := en) hI ⟨by omega, by omega⟩ ⟨by omega, by omega⟩ (by rw [ht15]; exact ht0) (by rw [ht15]; exact ht9)) (fun oq14 Sq14 hp15 q14 => ?_)
                rcases q14 with ⟨rfl, tr14⟩
                show wJ _ _ _ _ _ _ _ _ _ _
                refine wa_aload_n (n := 0) rfl ?_
                refine wa_iconst ?_
                refine wb_pfi 158 rfl (wy_pr rfl) wt_158 wf_5_16 (n := 16) rfl ⟨(by omega), (by omega)⟩ ?_
                refine wa_aload_n (n := 0) rfl ?_
                refine wb_lconst (m := 0) rfl ?_
                refine wb_pfl 158 rfl (wy_pr rfl) wt_158 wf_5_17 (n := 17) rfl ⟨(by omega), (by omega)⟩ ?_
                refine wa_iload_n (n := 3) rfl ?_
                refine wa_ifeq (w_rg0 (by omega) (by omega)) ⟨_, rfl⟩ (fun c16 => ?_) (fun c16 => ?_)
                · skip
                  refine wa_aload_n (n := 2) rfl ?_
                  refine wb_gf4 162 rfl (wy_pr rfl) wt_162 wf_3_3 (v := 185) wl_162_3 ?_
                  refine wa_bipush (w_rg2 (by omega) (by omega)) ?_
                  refine wb_aald5 185 15 rfl rfl (wy_pr rfl) wt_185 (by rw [show _ = _ from ((w_up_slot (by decide)).trans ((w_up_slot (by decide)).trans (((tr14.2.2.2.1 185 (-1) (by decide) (by decide) (by decide) (Or.inl (by decide))).trans ((cl_185 hC))))))]; omega) wl_185_15 ?_
                  refine wa_iload_n (n := 1) rfl ?_
                  refine wb_iald 201 rfl (wy_pr rfl) wt_201 (n := 400) ((w_up_slot (by decide)).trans ((w_up_slot (by decide)).trans (((tr14.2.2.2.1 201 (-1) (by decide) (by decide) (by decide) (Or.inl (by decide))).trans ((cl_201 hC)))))) (by omega) (by omega) (v := fl) ((w_up_slot (by decide)).trans ((w_up_slot (by decide)).trans (((tr14.2.2.2.1 201 m (by decide) (by decide) (by decide) (Or.inl (by decide))).trans (hmf))))) (fun r17 => ?_)
                  refine wa_iconst ?_
                  refine wa_icmpeq (w_rg0 (by omega) (by omega)) (w_rg0 (by omega) (by omega)) ⟨_, rfl⟩ (fun c18 => ?_) (fun c18 => ?_)
                  · skip
                    exact absurd c18 (by omega)
                  · skip
                    refine wa_aload_n (n := 0) rfl ?_
                    refine wa_iload_n (n := 1) rfl ?_
                    refine wa_aload_n (n := 2) rfl ?_
                    refine wb_gf4 162 rfl (wy_pr rfl) wt_162 wf_3_3 (v := 185) wl_162_3 ?_
                    refine wa_bipush (w_rg2 (by omega) (by omega)) ?_
                    refine wb_aald5 185 15 rfl rfl (wy_pr rfl) wt_185 (by rw [show _ = _ from ((w_up_slot (by decide)).trans ((w_up_slot (by decide)).trans (((tr14.2.2.2.1 185 (-1) (by decide) (by decide) (by decide) (Or.inl (by decide))).trans ((cl_185 hC))))))]; omega) wl_185_15 ?_
                    refine wa_iload_n (n := 1) rfl ?_
                    refine wb_iald 201 rfl (wy_pr rfl) wt_201 (n := 400) ((w_up_slot (by decide)).trans ((w_up_slot (by decide)).trans (((tr14.2.2.2.1 201 (-1) (by decide) (by decide) (by decide) (Or.inl (by decide))).trans ((cl_201 hC)))))) (by omega) (by omega) (v := fl) ((w_up_slot (by decide)).trans ((w_up_slot (by decide)).trans (((tr14.2.2.2.1 201 m (by decide) (by decide) (by decide) (Or.inl (by decide))).trans (hmf))))) (fun r19 => ?_)
                    have hf2 : ∀ (j : Nat) (i : Int), j < 4000000 → j ≠ wG → j ≠ 152 → j ≠ 72 → j ≠ 158 → (w_up (w_up Sq14 158 16 0) 158 17 0) j i = S j i := fun j i a b c d e => (w_up_no (fun z => e z.1)).trans ((w_up_no (fun z => e z.1)).trans (tr14.2.2.2.1 j i a b c (Or.inl d)))
                    have el : (w_up (w_up Sq14 158 16 0) 158 17 0) 206 (-1) = S 206 (-1) := (hf2 206 _ (by first | decide | omega) (by first | decide | omega) (by first | decide | omega) (by first | decide | omega) (by first | decide | omega))
                    have el2 : (w_up (w_up Sq14 158 16 0) 158 17 0) 207 (-1) = S 207 (-1) := (hf2 207 _ (by first | decide | omega) (by first | decide | omega) (by first | decide | omega) (by first | decide | omega) (by first | decide | omega))
                    have el8 : (w_up (w_up Sq14 158 16 0) 158 17 0) 228 (-1) = S 228 (-1) := (hf2 228 _ (by first | decide | omega) (by first | decide | omega) (by first | decide | omega) (by first | decide | omega) (by first | decide | omega))
                    have el9 : (w_up (w_up Sq14 158 16 0) 158 17 0) 229 (-1) = S 229 (-1) := (hf2 229 _ (by first | decide | omega) (by first | decide | omega) (by first | decide | omega) (by first | decide | omega) (by first | decide | omega))
                    refine wa_cv 158 rfl (wy_pr rfl) wt_158 (M2 := fun _ => False) rfl at_XL_useField ⟨_, rfl⟩ rfl rfl ⟨trivial, trivial, trivial, (Or.inr ⟨wy_pr rfl, fun q => q⟩), (Or.inr ⟨wy_pr rfl, fun q => q⟩), trivial, trivial⟩ trivial (fun _ _ q => False.elim q) (uss1_162_226 (S := (w_up (w_up Sq14 158 16 0) 158 17 0)) (m := m) (f := fl) (w_CL_up (w_CL_up (CL_tr hC tr14) (by omega)) (by omega)) ((w_up_slot (by decide)).trans ((w_up_slot (by decide)).trans (((tr14.2.2.2.1 72 1 (by decide) (by decide) (by decide) (Or.inr (by decide))).trans (h72))))) ((w_up_at (by decide)).trans ((w_up_at (by decide)).trans (((tr14.2.2.2.1 158 5 (by decide) (by decide) (by decide) (Or.inl (by decide))).trans (l5))))) ((w_up_at (by decide)).trans ((w_up_at (by decide)).trans (((tr14.2.2.2.1 158 8 (by decide) (by decide) (by decide) (Or.inl (by decide))).trans (l8))))) (((w_up_at (by decide)).trans ((w_up_at (by decide)).trans ((tr14.2.2.2.1 158 10 (by decide) (by decide) (by decide) (Or.inl (by decide)))))).trans l10) hm hfl ((hf2 188 _ (by decide) (by decide) (by decide) (by decide) (by decide)).trans hstt) ((hf2 201 _ (by decide) (by decide) (by decide) (by decide) (by decide)).trans hfi) (by rw [el, el2]; exact hrl) (by rw [el]; exact hrb) ((hf2 190 _ (by decide) (by decide) (by decide) (by decide) (by decide)).trans hmc) (by rw [el8, el9]; exact bl1) (by rw [el8]; exact ⟨by omega, by omega, bl3⟩) ((hf2 228 _ (by decide) (by decide) (by decide) (by decide) (by decide)).trans hk1) ((hf2 229 _ (by decide) (by decide) (by decide) (by decide) (by decide)).trans hv1)) (fun oq20 Sq20 hp21 q20 => ?_)
                    rcases q20 with ⟨rfl, rfl⟩
                    show wJ _ _ _ _ _ _ _ _ _ _
                    refine wa_goto ⟨_, rfl⟩ ?_
                    refine wa_aload_n (n := 0) rfl ?_
                    refine wb_gfi 158 rfl (wy_pr rfl) wt_158 wf_5_7 (v := kd) ((w_up_slot (by decide)).trans ((w_up_slot (by decide)).trans ((w_up_at (by decide)).trans ((w_up_at (by decide)).trans (((tr14.2.2.2.1 158 7 (by decide) (by decide) (by decide) (Or.inl (by decide))).trans (l7))))))) (fun r22 => ?_)
                    refine wa_iconst ?_
                    refine wa_icmpne (w_rg0 (by omega) (by omega)) (w_rg0 (by omega) (by omega)) ⟨_, rfl⟩ (fun c23 => ?_) (fun c23 => ?_)
                    · skip
                      refine wa_aload_n (n := 0) rfl ?_
                      refine wa_aload_n (n := 0) rfl ?_
                      refine wb_gfi 158 rfl (wy_pr rfl) wt_158 wf_5_16 (v := 0) ((w_up_slot (by decide)).trans ((w_up_slot (by decide)).trans ((w_up_at (by decide)).trans (w_up_same _ _ _ _)))) (fun r24 => ?_)
                      refine wa_aload_n (n := 0) rfl ?_
                      refine wb_gfl 158 rfl (wy_pr rfl) wt_158 wf_5_17 (v := 0) ((w_up_slot (by decide)).trans ((w_up_slot (by decide)).trans (w_up_same _ _ _ _))) (fun r25 => ?_)
                      refine wa_cv 158 rfl (wy_pr rfl) wt_158 (M2 := mS [228, 229]) rfl at_XL_giveValue ⟨_, rfl⟩ rfl rfl ⟨trivial, trivial, trivial, (Or.inr ⟨wy_pr rfl, mS_no rfl⟩), (Or.inr ⟨wy_pr rfl, mS_no rfl⟩), trivial, trivial⟩ trivial (fun _ _ q => mS_sub (by decide) q) (glx_226 (S := (w_up (w_up (w_up (w_up Sq14 158 16 0) 158 17 0) 206 fi k1) 207 fi v1)) (k := 0) (v := 0) (h := h) (c := c) (p := p) (ba := ba) (w_CL_up (w_CL_up (w_CL_up (w_CL_up (CL_tr hC tr14) (by omega)) (by omega)) (by omega)) (by omega)) (gI_up (gI_up (gI_up (gI_up tr14.2.2.2.2.2.1 (by omega) (by omega) (by omega)) (by omega) (by omega) (by omega)) (by omega) (by omega) (by omega)) (by omega) (by omega) (by omega)) ((w_up_slot (by decide)).trans ((w_up_slot (by decide)).trans ((w_up_at (by decide)).trans ((w_up_at (by decide)).trans (((tr14.2.2.2.1 158 4 (by decide) (by decide) (by decide) (Or.inl (by decide))).trans (l4))))))) ((w_up_slot (by decide)).trans ((w_up_slot (by decide)).trans ((w_up_at (by decide)).trans ((w_up_at (by decide)).trans (((tr14.2.2.2.1 158 5 (by decide) (by decide) (by decide) (Or.inl (by decide))).trans (l5))))))) ((w_up_slot (by decide)).trans ((w_up_slot (by decide)).trans ((w_up_at (by decide)).trans ((w_up_at (by decide)).trans (((tr14.2.2.2.1 158 8 (by decide) (by decide) (by decide) (Or.inl (by decide))).trans (l8))))))) ((w_up_slot (by decide)).trans ((w_up_slot (by decide)).trans ((w_up_slot (by decide)).trans ((w_up_slot (by decide)).trans (((tr14.2.2.2.1 226 4 (by decide) (by decide) (by decide) (Or.inl (by decide))).trans (bc))))))) ((w_up_slot (by decide)).trans ((w_up_slot (by decide)).trans ((w_up_slot (by decide)).trans ((w_up_slot (by decide)).trans (((tr14.2.2.2.1 231 (c - 1) (by decide) (by decide) (by decide) (Or.inl (by decide))).trans (bp))))))) ((((w_up_slot (by decide)).trans ((w_up_slot (by decide)).trans ((w_up_slot (by decide)).trans ((w_up_slot (by decide)).trans (((tr14.2.2.2.1 229 (-1) (by decide) (by decide) (by decide) (Or.inl (by decide))).trans (bl1)))))))).trans (((w_up_slot (by decide)).trans ((w_up_slot (by decide)).trans ((w_up_slot (by decide)).trans ((w_up_slot (by decide)).trans (((tr14.2.2.2.1 228 (-1) (by decide) (by decide) (by decide) (Or.inl (by decide))).trans (rfl)))))))).symm) (by have e : (w_up (w_up (w_up (w_up Sq14 158 16 0) 158 17 0) 206 fi k1) 207 fi v1) 228 (-1) = S 228 (-1) := ((w_up_slot (by decide)).trans ((w_up_slot (by decide)).trans ((w_up_slot (by decide)).trans ((w_up_slot (by decide)).trans (((tr14.2.2.2.1 228 (-1) (by decide) (by decide) (by decide) (Or.inl (by decide))).trans (rfl))))))); rw [e]; exact ⟨bl2, bl3⟩) (by have e : (w_up (w_up (w_up (w_up Sq14 158 16 0) 158 17 0) 206 fi k1) 207 fi v1) 228 (-1) = S 228 (-1) := ((w_up_slot (by decide)).trans ((w_up_slot (by decide)).trans ((w_up_slot (by decide)).trans ((w_up_slot (by decide)).trans (((tr14.2.2.2.1 228 (-1) (by decide) (by decide) (by decide) (Or.inl (by decide))).trans (rfl))))))); omega) ⟨by omega, by omega⟩ ⟨by omega, by omega⟩ ⟨by omega, by omega⟩ ⟨by omega, by omega⟩) (fun oq26 Sq26 hp27 q26 => ?_)
                      rcases q26 with ⟨rfl, hgv26⟩
                      show wJ _ _ _ _ _ _ _ _ _ _
                      refine wa_return rfl ?_
                      refine ⟨rfl, Or.inr ⟨by omega, Sq14, (w_up (w_up (w_up (w_up Sq14 158 16 0) 158 17 0) 206 fi k1) 207 fi v1), tr14, ?_, ?_⟩⟩
                      · exact fun j i hji => w_up_cg2 (w_up_cg2 ((w_up_no (by omega)).trans (w_up_no (by omega))))
                      · first | (rw [if_pos (show kd = 1 by omega), if_pos (show kd = 1 by omega)]; exact hgv26) | (rw [if_neg (show ¬ kd = 1 by omega), if_neg (show ¬ kd = 1 by omega)]; exact hgv26)
                    · skip
                      refine wa_aload_n (n := 0) rfl ?_
                      refine wa_aload_n (n := 0) rfl ?_
                      refine wb_gf5 158 rfl (wy_pr rfl) wt_158 wf_5_5 (v := 227) ((w_up_slot (by decide)).trans ((w_up_slot (by decide)).trans ((w_up_at (by decide)).trans ((w_up_at (by decide)).trans (((tr14.2.2.2.1 158 5 (by decide) (by decide) (by decide) (Or.inl (by decide))).trans (l5))))))) (fun r28 => ?_)
                      refine wb_gf4 227 rfl (wy_pr rfl) wt_227 wf_7_0 (v := 228) wl_227_0 ?_
                      refine wa_aload_n (n := 0) rfl ?_
                      refine wb_gf5 158 rfl (wy_pr rfl) wt_158 wf_5_5 (v := 227) ((w_up_slot (by decide)).trans ((w_up_slot (by decide)).trans ((w_up_at (by decide)).trans ((w_up_at (by decide)).trans (((tr14.2.2.2.1 158 5 (by decide) (by decide) (by decide) (Or.inl (by decide))).trans (l5))))))) (fun r29 => ?_)
                      refine wb_gfi 227 rfl (wy_pr rfl) wt_227 wf_7_2 (v := h) ((w_up_slot (by decide)).trans ((w_up_slot (by decide)).trans ((w_up_slot (by decide)).trans ((w_up_slot (by decide)).trans (((tr14.2.2.2.1 227 2 (by decide) (by decide) (by decide) (Or.inl (by decide))).trans (bh))))))) (fun r30 => ?_)
                      refine wa_iconst ?_
                      refine wa_isub ?_
                      refine wb_bald 228 rfl (wy_pr rfl) wt_228 (n := (S 228 (-1))) ((w_up_slot (by decide)).trans ((w_up_slot (by decide)).trans ((w_up_slot (by decide)).trans ((w_up_slot (by decide)).trans (((tr14.2.2.2.1 228 (-1) (by decide) (by decide) (by decide) (Or.inl (by decide))).trans (rfl))))))) (by omega) (by omega) (v := ky) ((w_up_slot (by decide)).trans ((w_up_slot (by decide)).trans ((w_up_slot (by decide)).trans ((w_up_slot (by decide)).trans (((tr14.2.2.2.1 228 (h - 1) (by decide) (by decide) (by decide) (Or.inl (by decide))).trans (hky))))))) (fun r31 => ?_)
                      refine wb_pfi 158 rfl (wy_pr rfl) wt_158 wf_5_16 (n := 16) rfl ⟨(by omega), (by omega)⟩ ?_
                      refine wa_aload_n (n := 0) rfl ?_
                      refine wa_aload_n (n := 0) rfl ?_
                      refine wb_gf5 158 rfl (wy_pr rfl) wt_158 wf_5_5 (v := 227) ((w_up_at (by decide)).trans ((w_up_slot (by decide)).trans ((w_up_slot (by decide)).trans ((w_up_at (by decide)).trans ((w_up_at (by decide)).trans (((tr14.2.2.2.1 158 5 (by decide) (by decide) (by decide) (Or.inl (by decide))).trans (l5)))))))) (fun r32 => ?_)
                      refine wb_gf4 227 rfl (wy_pr rfl) wt_227 wf_7_1 (v := 229) wl_227_1 ?_
                      refine wa_aload_n (n := 0) rfl ?_
                      refine wb_gf5 158 rfl (wy_pr rfl) wt_158 wf_5_5 (v := 227) ((w_up_at (by decide)).trans ((w_up_slot (by decide)).trans ((w_up_slot (by decide)).trans ((w_up_at (by decide)).trans ((w_up_at (by decide)).trans (((tr14.2.2.2.1 158 5 (by decide) (by decide) (by decide) (Or.inl (by decide))).trans (l5)))))))) (fun r33 => ?_)
                      refine wb_gfi 227 rfl (wy_pr rfl) wt_227 wf_7_2 (v := h) ((w_up_slot (by decide)).trans ((w_up_slot (by decide)).trans ((w_up_slot (by decide)).trans ((w_up_slot (by decide)).trans ((w_up_slot (by decide)).trans (((tr14.2.2.2.1 227 2 (by decide) (by decide) (by decide) (Or.inl (by decide))).trans (bh)))))))) (fun r34 => ?_)
                      refine wa_iconst ?_
                      refine wa_isub ?_
                      refine wb_lald 229 rfl (wy_pr rfl) wt_229 (n := (S 228 (-1))) ((w_up_slot (by decide)).trans ((w_up_slot (by decide)).trans ((w_up_slot (by decide)).trans ((w_up_slot (by decide)).trans ((w_up_slot (by decide)).trans (((tr14.2.2.2.1 229 (-1) (by decide) (by decide) (by decide) (Or.inl (by decide))).trans (bl1)))))))) (by omega) (by omega) (v := vy) ((w_up_slot (by decide)).trans ((w_up_slot (by decide)).trans ((w_up_slot (by decide)).trans ((w_up_slot (by decide)).trans ((w_up_slot (by decide)).trans (((tr14.2.2.2.1 229 (h - 1) (by decide) (by decide) (by decide) (Or.inl (by decide))).trans (hvy)))))))) (fun r35 => ?_)
                      refine wb_pfl 158 rfl (wy_pr rfl) wt_158 wf_5_17 (n := 17) rfl ⟨(by omega), (by omega)⟩ ?_
                      refine wa_fall ⟨_, rfl⟩ ?_
                      refine wa_aload_n (n := 0) rfl ?_
                      refine wa_aload_n (n := 0) rfl ?_
                      refine wb_gfi 158 rfl (wy_pr rfl) wt_158 wf_5_16 (v := ky) ((w_up_at (by decide)).trans (w_up_same _ _ _ _)) (fun r36 => ?_)
                      refine wa_aload_n (n := 0) rfl ?_
                      refine wb_gfl 158 rfl (wy_pr rfl) wt_158 wf_5_17 (v := vy) (w_up_same _ _ _ _) (fun r37 => ?_)
                      refine wa_cv 158 rfl (wy_pr rfl) wt_158 (M2 := mS [228, 229]) rfl at_XL_giveValue ⟨_, rfl⟩ rfl rfl ⟨trivial, trivial, trivial, (Or.inr ⟨wy_pr rfl, mS_no rfl⟩), (Or.inr ⟨wy_pr rfl, mS_no rfl⟩), trivial, trivial⟩ trivial (fun _ _ q => mS_sub (by decide) q) (glx_226 (S := (w_up (w_up (w_up (w_up (w_up (w_up Sq14 158 16 0) 158 17 0) 206 fi k1) 207 fi v1) 158 16 ky) 158 17 vy)) (k := ky) (v := vy) (h := h) (c := c) (p := p) (ba := ba) (w_CL_up (w_CL_up (w_CL_up (w_CL_up (w_CL_up (w_CL_up (CL_tr hC tr14) (by omega)) (by omega)) (by omega)) (by omega)) (by omega)) (by omega)) (gI_up (gI_up (gI_up (gI_up (gI_up (gI_up tr14.2.2.2.2.2.1 (by omega) (by omega) (by omega)) (by omega) (by omega) (by omega)) (by omega) (by omega) (by omega)) (by omega) (by omega) (by omega)) (by omega) (by omega) (by omega)) (by omega) (by omega) (by omega)) ((w_up_at (by decide)).trans ((w_up_at (by decide)).trans ((w_up_slot (by decide)).trans ((w_up_slot (by decide)).trans ((w_up_at (by decide)).trans ((w_up_at (by decide)).trans (((tr14.2.2.2.1 158 4 (by decide) (by decide) (by decide) (Or.inl (by decide))).trans (l4))))))))) ((w_up_at (by decide)).trans ((w_up_at (by decide)).trans ((w_up_slot (by decide)).trans ((w_up_slot (by decide)).trans ((w_up_at (by decide)).trans ((w_up_at (by decide)).trans (((tr14.2.2.2.1 158 5 (by decide) (by decide) (by decide) (Or.inl (by decide))).trans (l5))))))))) ((w_up_at (by decide)).trans ((w_up_at (by decide)).trans ((w_up_slot (by decide)).trans ((w_up_slot (by decide)).trans ((w_up_at (by decide)).trans ((w_up_at (by decide)).trans (((tr14.2.2.2.1 158 8 (by decide) (by decide) (by decide) (Or.inl (by decide))).trans (l8))))))))) ((w_up_slot (by decide)).trans ((w_up_slot (by decide)).trans ((w_up_slot (by decide)).trans ((w_up_slot (by decide)).trans ((w_up_slot (by decide)).trans ((w_up_slot (by decide)).trans (((tr14.2.2.2.1 226 4 (by decide) (by decide) (by decide) (Or.inl (by decide))).trans (bc))))))))) ((w_up_slot (by decide)).trans ((w_up_slot (by decide)).trans ((w_up_slot (by decide)).trans ((w_up_slot (by decide)).trans ((w_up_slot (by decide)).trans ((w_up_slot (by decide)).trans (((tr14.2.2.2.1 231 (c - 1) (by decide) (by decide) (by decide) (Or.inl (by decide))).trans (bp))))))))) ((((w_up_slot (by decide)).trans ((w_up_slot (by decide)).trans ((w_up_slot (by decide)).trans ((w_up_slot (by decide)).trans ((w_up_slot (by decide)).trans ((w_up_slot (by decide)).trans (((tr14.2.2.2.1 229 (-1) (by decide) (by decide) (by decide) (Or.inl (by decide))).trans (bl1)))))))))).trans (((w_up_slot (by decide)).trans ((w_up_slot (by decide)).trans ((w_up_slot (by decide)).trans ((w_up_slot (by decide)).trans ((w_up_slot (by decide)).trans ((w_up_slot (by decide)).trans (((tr14.2.2.2.1 228 (-1) (by decide) (by decide) (by decide) (Or.inl (by decide))).trans (rfl)))))))))).symm) (by have e : (w_up (w_up (w_up (w_up (w_up (w_up Sq14 158 16 0) 158 17 0) 206 fi k1) 207 fi v1) 158 16 ky) 158 17 vy) 228 (-1) = S 228 (-1) := ((w_up_slot (by decide)).trans ((w_up_slot (by decide)).trans ((w_up_slot (by decide)).trans ((w_up_slot (by decide)).trans ((w_up_slot (by decide)).trans ((w_up_slot (by decide)).trans (((tr14.2.2.2.1 228 (-1) (by decide) (by decide) (by decide) (Or.inl (by decide))).trans (rfl))))))))); rw [e]; exact ⟨bl2, bl3⟩) (by have e : (w_up (w_up (w_up (w_up (w_up (w_up Sq14 158 16 0) 158 17 0) 206 fi k1) 207 fi v1) 158 16 ky) 158 17 vy) 228 (-1) = S 228 (-1) := ((w_up_slot (by decide)).trans ((w_up_slot (by decide)).trans ((w_up_slot (by decide)).trans ((w_up_slot (by decide)).trans ((w_up_slot (by decide)).trans ((w_up_slot (by decide)).trans (((tr14.2.2.2.1 228 (-1) (by decide) (by decide) (by decide) (Or.inl (by decide))).trans (rfl))))))))); omega) ⟨by omega, by omega⟩ ⟨by omega, by omega⟩ ⟨by omega, by omega⟩ ⟨by omega, by omega⟩) (fun oq38 Sq38 hp39 q38 => ?_)
                      rcases q38 with ⟨rfl, hgv38⟩
                      show wJ _ _ _ _ _ _ _ _ _ _
                      refine wa_return rfl ?_
                      refine ⟨rfl, Or.inr ⟨by omega, Sq14, (w_up (w_up (w_up (w_up (w_up (w_up Sq14 158 16 0) 158 17 0) 206 fi k1) 207 fi v1) 158 16 ky) 158 17 vy), tr14, ?_, ?_⟩⟩
                      · exact fun j i hji => (w_up_no (by omega)).trans ((w_up_no (by omega)).trans (w_up_cg2 (w_up_cg2 ((w_up_no (by omega)).trans (w_up_no (by omega))))))
                      · first | (rw [if_pos (show kd = 1 by omega), if_pos (show kd = 1 by omega)]; exact hgv38) | (rw [if_neg (show ¬ kd = 1 by omega), if_neg (show ¬ kd = 1 by omega)]; exact hgv38)
                · skip
                  exact absurd c16 (by omega)
              · skip
                exact absurd c12 (by omega)
            · skip
              exact absurd c11 (by omega)
        · skip
          exact absurd c7 (by omega)
      · skip
        refine wa_aload_n (n := 2) rfl ?_
        refine wb_gf4 162 rfl (wy_pr rfl) wt_162 wf_3_3 (v := 185) wl_162_3 ?_
        refine wa_bipush (w_rg2 (by omega) (by omega)) ?_
        refine wb_aald5 185 15 rfl rfl (wy_pr rfl) wt_185 (by rw [show _ = _ from ((cl_185 hC))]; omega) wl_185_15 ?_
        refine wa_iload_n (n := 1) rfl ?_
        refine wb_iald 201 rfl (wy_pr rfl) wt_201 (n := 400) ((cl_201 hC)) (by omega) (by omega) (v := fl) (hmf) (fun r40 => ?_)
        refine wa_iconst ?_
        refine wa_icmpne (w_rg0 (by omega) (by omega)) (w_rg0 (by omega) (by omega)) ⟨_, rfl⟩ (fun c41 => ?_) (fun c41 => ?_)
        · skip
          refine wa_iconst ?_
          refine wa_fall ⟨_, rfl⟩ ?_
          refine wa_istore (n := 4) rfl ?_
          refine wa_iload_n (n := 3) rfl ?_
          refine wa_ifeq (w_rg0 (by omega) (by omega)) ⟨_, rfl⟩ (fun c42 => ?_) (fun c42 => ?_)
          · skip
            refine wa_iconst ?_
            refine wa_fall ⟨_, rfl⟩ ?_
            refine wa_istore (n := 5) rfl ?_
            refine wa_aload_n (n := 0) rfl ?_
            refine wb_gf4 158 rfl (wy_pr rfl) wt_158 wf_5_0 (v := 72) wl_158_0 ?_
            refine wb_gfi 72 rfl (wy_pr rfl) wt_72 wf_2_15 (v := tn) (ht15) (fun r43 => ?_)
            refine wa_iconst ?_
            refine wa_iadd ?_
            refine wb_ki (n := 100000) rfl ?_
            refine wa_icmpgt (w_rg0 (by omega) (by omega)) (w_rg0 (by omega) (by omega)) ⟨_, rfl⟩ (fun c44 => ?_) (fun c44 => ?_)
            · skip
              refine wa_aload_n (n := 0) rfl ?_
              refine wb_gf5 158 rfl (wy_pr rfl) wt_158 wf_5_4 (v := 226) (l4) (fun r45 => ?_)
              refine wa_bipush (w_rg2 (by omega) (by omega)) ?_
              refine wb_pfi 226 rfl (wy_pr rfl) wt_226 wf_8_16 (n := 16) rfl ⟨(by omega), (by omega)⟩ ?_
              refine wa_return rfl ?_
              exact ⟨rfl, Or.inl ⟨by omega, rfl⟩⟩
            · skip
              refine wa_iload_n (n := 3) rfl ?_
              refine wa_ifeq (w_rg0 (by omega) (by omega)) ⟨_, rfl⟩ (fun c46 => ?_) (fun c46 => ?_)
              · skip
                refine wa_iload (n := 4) rfl ?_
                refine wa_ifeq (w_rg0 (by omega) (by omega)) ⟨_, rfl⟩ (fun c47 => ?_) (fun c47 => ?_)
                · skip
                  refine wa_aload_n (n := 0) rfl ?_
                  refine wb_gf4 158 rfl (wy_pr rfl) wt_158 wf_5_0 (v := 72) wl_158_0 ?_
                  refine wa_iload_n (n := 1) rfl ?_
                  refine wa_aload_n (n := 0) rfl ?_
                  refine wb_gfi 158 rfl (wy_pr rfl) wt_158 wf_5_12 (v := en) (l12) (fun r48 => ?_)
                  refine wa_cv 72 rfl (wy_pr rfl) wt_72 (M2 := mS [152]) rfl at_XH_addTrace ⟨_, rfl⟩ rfl rfl ⟨trivial, trivial, trivial, (Or.inr ⟨wy_pr rfl, mS_no rfl⟩), (Or.inr ⟨wy_pr rfl, mS_no rfl⟩), trivial, trivial⟩ trivial (fun _ _ q => mS_sub (by decide) q) (tra (S := S) (m := m) (k := en) hI ⟨by omega, by omega⟩ ⟨by omega, by omega⟩ (by rw [ht15]; exact ht0) (by rw [ht15]; exact ht9)) (fun oq49 Sq49 hp50 q49 => ?_)
                  rcases q49 with ⟨rfl, tr49⟩
                  show wJ _ _ _ _ _ _ _ _ _ _
                  refine wa_aload_n (n := 0) rfl ?_
                  refine wa_iconst ?_
                  refine wb_pfi 158 rfl (wy_pr rfl) wt_158 wf_5_16 (n := 16) rfl ⟨(by omega), (by omega)⟩ ?_
                  refine wa_aload_n (n := 0) rfl ?_
                  refine wb_lconst (m := 0) rfl ?_
                  refine wb_pfl 158 rfl (wy_pr rfl) wt_158 wf_5_17 (n := 17) rfl ⟨(by omega), (by omega)⟩ ?_
                  refine wa_iload_n (n := 3) rfl ?_
                  refine wa_ifeq (w_rg0 (by omega) (by omega)) ⟨_, rfl⟩ (fun c51 => ?_) (fun c51 => ?_)
                  · skip
                    refine wa_aload_n (n := 2) rfl ?_
                    refine wb_gf4 162 rfl (wy_pr rfl) wt_162 wf_3_3 (v := 185) wl_162_3 ?_
                    refine wa_bipush (w_rg2 (by omega) (by omega)) ?_
                    refine wb_aald5 185 15 rfl rfl (wy_pr rfl) wt_185 (by rw [show _ = _ from ((w_up_slot (by decide)).trans ((w_up_slot (by decide)).trans (((tr49.2.2.2.1 185 (-1) (by decide) (by decide) (by decide) (Or.inl (by decide))).trans ((cl_185 hC))))))]; omega) wl_185_15 ?_
                    refine wa_iload_n (n := 1) rfl ?_
                    refine wb_iald 201 rfl (wy_pr rfl) wt_201 (n := 400) ((w_up_slot (by decide)).trans ((w_up_slot (by decide)).trans (((tr49.2.2.2.1 201 (-1) (by decide) (by decide) (by decide) (Or.inl (by decide))).trans ((cl_201 hC)))))) (by omega) (by omega) (v := fl) ((w_up_slot (by decide)).trans ((w_up_slot (by decide)).trans (((tr49.2.2.2.1 201 m (by decide) (by decide) (by decide) (Or.inl (by decide))).trans (hmf))))) (fun r52 => ?_)
                    refine wa_iconst ?_
                    refine wa_icmpeq (w_rg0 (by omega) (by omega)) (w_rg0 (by omega) (by omega)) ⟨_, rfl⟩ (fun c53 => ?_) (fun c53 => ?_)
                    · skip
                      exact absurd c53 (by omega)
                    · skip
                      refine wa_aload_n (n := 0) rfl ?_
                      refine wa_iload_n (n := 1) rfl ?_
                      refine wa_aload_n (n := 2) rfl ?_
                      refine wb_gf4 162 rfl (wy_pr rfl) wt_162 wf_3_3 (v := 185) wl_162_3 ?_
                      refine wa_bipush (w_rg2 (by omega) (by omega)) ?_
                      refine wb_aald5 185 15 rfl rfl (wy_pr rfl) wt_185 (by rw [show _ = _ from ((w_up_slot (by decide)).trans ((w_up_slot (by decide)).trans (((tr49.2.2.2.1 185 (-1) (by decide) (by decide) (by decide) (Or.inl (by decide))).trans ((cl_185 hC))))))]; omega) wl_185_15 ?_
                      refine wa_iload_n (n := 1) rfl ?_
                      refine wb_iald 201 rfl (wy_pr rfl) wt_201 (n := 400) ((w_up_slot (by decide)).trans ((w_up_slot (by decide)).trans (((tr49.2.2.2.1 201 (-1) (by decide) (by decide) (by decide) (Or.inl (by decide))).trans ((cl_201 hC)))))) (by omega) (by omega) (v := fl) ((w_up_slot (by decide)).trans ((w_up_slot (by decide)).trans (((tr49.2.2.2.1 201 m (by decide) (by decide) (by decide) (Or.inl (by decide))).trans (hmf))))) (fun r54 => ?_)
                      have hf2 : ∀ (j : Nat) (i : Int), j < 4000000 → j ≠ wG → j ≠ 152 → j ≠ 72 → j ≠ 158 → (w_up (w_up Sq49 158 16 0) 158 17 0) j i = S j i := fun j i a b c d e => (w_up_no (fun z => e z.1)).trans ((w_up_no (fun z => e z.1)).trans (tr49.2.2.2.1 j i a b c (Or.inl d)))
                      have el : (w_up (w_up Sq49 158 16 0) 158 17 0) 206 (-1) = S 206 (-1) := (hf2 206 _ (by first | decide | omega) (by first | decide | omega) (by first | decide | omega) (by first | decide | omega) (by first | decide | omega))
                      have el2 : (w_up (w_up Sq49 158 16 0) 158 17 0) 207 (-1) = S 207 (-1) := (hf2 207 _ (by first | decide | omega) (by first | decide | omega) (by first | decide | omega) (by first | decide | omega) (by first | decide | omega))
                      have el8 : (w_up (w_up Sq49 158 16 0) 158 17 0) 228 (-1) = S 228 (-1) := (hf2 228 _ (by first | decide | omega) (by first | decide | omega) (by first | decide | omega) (by first | decide | omega) (by first | decide | omega))
                      have el9 : (w_up (w_up Sq49 158 16 0) 158 17 0) 229 (-1) = S 229 (-1) := (hf2 229 _ (by first | decide | omega) (by first | decide | omega) (by first | decide | omega) (by first | decide | omega) (by first | decide | omega))
                      refine wa_cv 158 rfl (wy_pr rfl) wt_158 (M2 := fun _ => False) rfl at_XL_useField ⟨_, rfl⟩ rfl rfl ⟨trivial, trivial, trivial, (Or.inr ⟨wy_pr rfl, fun q => q⟩), (Or.inr ⟨wy_pr rfl, fun q => q⟩), trivial, trivial⟩ trivial (fun _ _ q => False.elim q) (uss1_162_226 (S := (w_up (w_up Sq49 158 16 0) 158 17 0)) (m := m) (f := fl) (w_CL_up (w_CL_up (CL_tr hC tr49) (by omega)) (by omega)) ((w_up_slot (by decide)).trans ((w_up_slot (by decide)).trans (((tr49.2.2.2.1 72 1 (by decide) (by decide) (by decide) (Or.inr (by decide))).trans (h72))))) ((w_up_at (by decide)).trans ((w_up_at (by decide)).trans (((tr49.2.2.2.1 158 5 (by decide) (by decide) (by decide) (Or.inl (by decide))).trans (l5))))) ((w_up_at (by decide)).trans ((w_up_at (by decide)).trans (((tr49.2.2.2.1 158 8 (by decide) (by decide) (by decide) (Or.inl (by decide))).trans (l8))))) (((w_up_at (by decide)).trans ((w_up_at (by decide)).trans ((tr49.2.2.2.1 158 10 (by decide) (by decide) (by decide) (Or.inl (by decide)))))).trans l10) hm hfl ((hf2 188 _ (by decide) (by decide) (by decide) (by decide) (by decide)).trans hstt) ((hf2 201 _ (by decide) (by decide) (by decide) (by decide) (by decide)).trans hfi) (by rw [el, el2]; exact hrl) (by rw [el]; exact hrb) ((hf2 190 _ (by decide) (by decide) (by decide) (by decide) (by decide)).trans hmc) (by rw [el8, el9]; exact bl1) (by rw [el8]; exact ⟨by omega, by omega, bl3⟩) ((hf2 228 _ (by decide) (by decide) (by decide) (by decide) (by decide)).trans hk1) ((hf2 229 _ (by decide) (by decide) (by decide) (by decide) (by decide)).trans hv1)) (fun oq55 Sq55 hp56 q55 => ?_)
                      rcases q55 with ⟨rfl, rfl⟩
                      show wJ _ _ _ _ _ _ _ _ _ _
                      refine wa_goto ⟨_, rfl⟩ ?_
                      refine wa_aload_n (n := 0) rfl ?_
                      refine wb_gfi 158 rfl (wy_pr rfl) wt_158 wf_5_7 (v := kd) ((w_up_slot (by decide)).trans ((w_up_slot (by decide)).trans ((w_up_at (by decide)).trans ((w_up_at (by decide)).trans (((tr49.2.2.2.1 158 7 (by decide) (by decide) (by decide) (Or.inl (by decide))).trans (l7))))))) (fun r57 => ?_)
                      refine wa_iconst ?_
                      refine wa_icmpne (w_rg0 (by omega) (by omega)) (w_rg0 (by omega) (by omega)) ⟨_, rfl⟩ (fun c58 => ?_) (fun c58 => ?_)
                      · skip
                        refine wa_aload_n (n := 0) rfl ?_
                        refine wa_aload_n (n := 0) rfl ?_
                        refine wb_gfi 158 rfl (wy_pr rfl) wt_158 wf_5_16 (v := 0) ((w_up_slot (by decide)).trans ((w_up_slot (by decide)).trans ((w_up_at (by decide)).trans (w_up_same _ _ _ _)))) (fun r59 => ?_)
                        refine wa_aload_n (n := 0) rfl ?_
                        refine wb_gfl 158 rfl (wy_pr rfl) wt_158 wf_5_17 (v := 0) ((w_up_slot (by decide)).trans ((w_up_slot (by decide)).trans (w_up_same _ _ _ _))) (fun r60 => ?_)
                        refine wa_cv 158 rfl (wy_pr rfl) wt_158 (M2 := mS [228, 229]) rfl at_XL_giveValue ⟨_, rfl⟩ rfl rfl ⟨trivial, trivial, trivial, (Or.inr ⟨wy_pr rfl, mS_no rfl⟩), (Or.inr ⟨wy_pr rfl, mS_no rfl⟩), trivial, trivial⟩ trivial (fun _ _ q => mS_sub (by decide) q) (glx_226 (S := (w_up (w_up (w_up (w_up Sq49 158 16 0) 158 17 0) 206 fi k1) 207 fi v1)) (k := 0) (v := 0) (h := h) (c := c) (p := p) (ba := ba) (w_CL_up (w_CL_up (w_CL_up (w_CL_up (CL_tr hC tr49) (by omega)) (by omega)) (by omega)) (by omega)) (gI_up (gI_up (gI_up (gI_up tr49.2.2.2.2.2.1 (by omega) (by omega) (by omega)) (by omega) (by omega) (by omega)) (by omega) (by omega) (by omega)) (by omega) (by omega) (by omega)) ((w_up_slot (by decide)).trans ((w_up_slot (by decide)).trans ((w_up_at (by decide)).trans ((w_up_at (by decide)).trans (((tr49.2.2.2.1 158 4 (by decide) (by decide) (by decide) (Or.inl (by decide))).trans (l4))))))) ((w_up_slot (by decide)).trans ((w_up_slot (by decide)).trans ((w_up_at (by decide)).trans ((w_up_at (by decide)).trans (((tr49.2.2.2.1 158 5 (by decide) (by decide) (by decide) (Or.inl (by decide))).trans (l5))))))) ((w_up_slot (by decide)).trans ((w_up_slot (by decide)).trans ((w_up_at (by decide)).trans ((w_up_at (by decide)).trans (((tr49.2.2.2.1 158 8 (by decide) (by decide) (by decide) (Or.inl (by decide))).trans (l8))))))) ((w_up_slot (by decide)).trans ((w_up_slot (by decide)).trans ((w_up_slot (by decide)).trans ((w_up_slot (by decide)).trans (((tr49.2.2.2.1 226 4 (by decide) (by decide) (by decide) (Or.inl (by decide))).trans (bc))))))) ((w_up_slot (by decide)).trans ((w_up_slot (by decide)).trans ((w_up_slot (by decide)).trans ((w_up_slot (by decide)).trans (((tr49.2.2.2.1 231 (c - 1) (by decide) (by decide) (by decide) (Or.inl (by decide))).trans (bp))))))) ((((w_up_slot (by decide)).trans ((w_up_slot (by decide)).trans ((w_up_slot (by decide)).trans ((w_up_slot (by decide)).trans (((tr49.2.2.2.1 229 (-1) (by decide) (by decide) (by decide) (Or.inl (by decide))).trans (bl1)))))))).trans (((w_up_slot (by decide)).trans ((w_up_slot (by decide)).trans ((w_up_slot (by decide)).trans ((w_up_slot (by decide)).trans (((tr49.2.2.2.1 228 (-1) (by decide) (by decide) (by decide) (Or.inl (by decide))).trans (rfl)))))))).symm) (by have e : (w_up (w_up (w_up (w_up Sq49 158 16 0) 158 17 0) 206 fi k1) 207 fi v1) 228 (-1) = S 228 (-1) := ((w_up_slot (by decide)).trans ((w_up_slot (by decide)).trans ((w_up_slot (by decide)).trans ((w_up_slot (by decide)).trans (((tr49.2.2.2.1 228 (-1) (by decide) (by decide) (by decide) (Or.inl (by decide))).trans (rfl))))))); rw [e]; exact ⟨bl2, bl3⟩) (by have e : (w_up (w_up (w_up (w_up Sq49 158 16 0) 158 17 0) 206 fi k1) 207 fi v1) 228 (-1) = S 228 (-1) := ((w_up_slot (by decide)).trans ((w_up_slot (by decide)).trans ((w_up_slot (by decide)).trans ((w_up_slot (by decide)).trans (((tr49.2.2.2.1 228 (-1) (by decide) (by decide) (by decide) (Or.inl (by decide))).trans (rfl))))))); omega) ⟨by omega, by omega⟩ ⟨by omega, by omega⟩ ⟨by omega, by omega⟩ ⟨by omega, by omega⟩) (fun oq61 Sq61 hp62 q61 => ?_)
                        rcases q61 with ⟨rfl, hgv61⟩
                        show wJ _ _ _ _ _ _ _ _ _ _
                        refine wa_return rfl ?_
                        refine ⟨rfl, Or.inr ⟨by omega, Sq49, (w_up (w_up (w_up (w_up Sq49 158 16 0) 158 17 0) 206 fi k1) 207 fi v1), tr49, ?_, ?_⟩⟩
                        · exact fun j i hji => w_up_cg2 (w_up_cg2 ((w_up_no (by omega)).trans (w_up_no (by omega))))
                        · first | (rw [if_pos (show kd = 1 by omega), if_pos (show kd = 1 by omega)]; exact hgv61) | (rw [if_neg (show ¬ kd = 1 by omega), if_neg (show ¬ kd = 1 by omega)]; exact hgv61)
                      · skip
                        refine wa_aload_n (n := 0) rfl ?_
                        refine wa_aload_n (n := 0) rfl ?_
                        refine wb_gf5 158 rfl (wy_pr rfl) wt_158 wf_5_5 (v := 227) ((w_up_slot (by decide)).trans ((w_up_slot (by decide)).trans ((w_up_at (by decide)).trans ((w_up_at (by decide)).trans (((tr49.2.2.2.1 158 5 (by decide) (by decide) (by decide) (Or.inl (by decide))).trans (l5))))))) (fun r63 => ?_)
                        refine wb_gf4 227 rfl (wy_pr rfl) wt_227 wf_7_0 (v := 228) wl_227_0 ?_
                        refine wa_aload_n (n := 0) rfl ?_
                        refine wb_gf5 158 rfl (wy_pr rfl) wt_158 wf_5_5 (v := 227) ((w_up_slot (by decide)).trans ((w_up_slot (by decide)).trans ((w_up_at (by decide)).trans ((w_up_at (by decide)).trans (((tr49.2.2.2.1 158 5 (by decide) (by decide) (by decide) (Or.inl (by decide))).trans (l5))))))) (fun r64 => ?_)
                        refine wb_gfi 227 rfl (wy_pr rfl) wt_227 wf_7_2 (v := h) ((w_up_slot (by decide)).trans ((w_up_slot (by decide)).trans ((w_up_slot (by decide)).trans ((w_up_slot (by decide)).trans (((tr49.2.2.2.1 227 2 (by decide) (by decide) (by decide) (Or.inl (by decide))).trans (bh))))))) (fun r65 => ?_)
                        refine wa_iconst ?_
                        refine wa_isub ?_
                        refine wb_bald 228 rfl (wy_pr rfl) wt_228 (n := (S 228 (-1))) ((w_up_slot (by decide)).trans ((w_up_slot (by decide)).trans ((w_up_slot (by decide)).trans ((w_up_slot (by decide)).trans (((tr49.2.2.2.1 228 (-1) (by decide) (by decide) (by decide) (Or.inl (by decide))).trans (rfl))))))) (by omega) (by omega) (v := ky) ((w_up_slot (by decide)).trans ((w_up_slot (by decide)).trans ((w_up_slot (by decide)).trans ((w_up_slot (by decide)).trans (((tr49.2.2.2.1 228 (h - 1) (by decide) (by decide) (by decide) (Or.inl (by decide))).trans (hky))))))) (fun r66 => ?_)
                        refine wb_pfi 158 rfl (wy_pr rfl) wt_158 wf_5_16 (n := 16) rfl ⟨(by omega), (by omega)⟩ ?_
                        refine wa_aload_n (n := 0) rfl ?_
                        refine wa_aload_n (n := 0) rfl ?_
                        refine wb_gf5 158 rfl (wy_pr rfl) wt_158 wf_5_5 (v := 227) ((w_up_at (by decide)).trans ((w_up_slot (by decide)).trans ((w_up_slot (by decide)).trans ((w_up_at (by decide)).trans ((w_up_at (by decide)).trans (((tr49.2.2.2.1 158 5 (by decide) (by decide) (by decide) (Or.inl (by decide))).trans (l5)))))))) (fun r67 => ?_)
                        refine wb_gf4 227 rfl (wy_pr rfl) wt_227 wf_7_1 (v := 229) wl_227_1 ?_
                        refine wa_aload_n (n := 0) rfl ?_
                        refine wb_gf5 158 rfl (wy_pr rfl) wt_158 wf_5_5 (v := 227) ((w_up_at (by decide)).trans ((w_up_slot (by decide)).trans ((w_up_slot (by decide)).trans ((w_up_at (by decide)).trans ((w_up_at (by decide)).trans (((tr49.2.2.2.1 158 5 (by decide) (by decide) (by decide) (Or.inl (by decide))).trans (l5)))))))) (fun r68 => ?_)
                        refine wb_gfi 227 rfl (wy_pr rfl) wt_227 wf_7_2 (v := h) ((w_up_slot (by decide)).trans ((w_up_slot (by decide)).trans ((w_up_slot (by decide)).trans ((w_up_slot (by decide)).trans ((w_up_slot (by decide)).trans (((tr49.2.2.2.1 227 2 (by decide) (by decide) (by decide) (Or.inl (by decide))).trans (bh)))))))) (fun r69 => ?_)
                        refine wa_iconst ?_
                        refine wa_isub ?_
                        refine wb_lald 229 rfl (wy_pr rfl) wt_229 (n := (S 228 (-1))) ((w_up_slot (by decide)).trans ((w_up_slot (by decide)).trans ((w_up_slot (by decide)).trans ((w_up_slot (by decide)).trans ((w_up_slot (by decide)).trans (((tr49.2.2.2.1 229 (-1) (by decide) (by decide) (by decide) (Or.inl (by decide))).trans (bl1)))))))) (by omega) (by omega) (v := vy) ((w_up_slot (by decide)).trans ((w_up_slot (by decide)).trans ((w_up_slot (by decide)).trans ((w_up_slot (by decide)).trans ((w_up_slot (by decide)).trans (((tr49.2.2.2.1 229 (h - 1) (by decide) (by decide) (by decide) (Or.inl (by decide))).trans (hvy)))))))) (fun r70 => ?_)
                        refine wb_pfl 158 rfl (wy_pr rfl) wt_158 wf_5_17 (n := 17) rfl ⟨(by omega), (by omega)⟩ ?_
                        refine wa_fall ⟨_, rfl⟩ ?_
                        refine wa_aload_n (n := 0) rfl ?_
                        refine wa_aload_n (n := 0) rfl ?_
                        refine wb_gfi 158 rfl (wy_pr rfl) wt_158 wf_5_16 (v := ky) ((w_up_at (by decide)).trans (w_up_same _ _ _ _)) (fun r71 => ?_)
                        refine wa_aload_n (n := 0) rfl ?_
                        refine wb_gfl 158 rfl (wy_pr rfl) wt_158 wf_5_17 (v := vy) (w_up_same _ _ _ _) (fun r72 => ?_)
                        refine wa_cv 158 rfl (wy_pr rfl) wt_158 (M2 := mS [228, 229]) rfl at_XL_giveValue ⟨_, rfl⟩ rfl rfl ⟨trivial, trivial, trivial, (Or.inr ⟨wy_pr rfl, mS_no rfl⟩), (Or.inr ⟨wy_pr rfl, mS_no rfl⟩), trivial, trivial⟩ trivial (fun _ _ q => mS_sub (by decide) q) (glx_226 (S := (w_up (w_up (w_up (w_up (w_up (w_up Sq49 158 16 0) 158 17 0) 206 fi k1) 207 fi v1) 158 16 ky) 158 17 vy)) (k := ky) (v := vy) (h := h) (c := c) (p := p) (ba := ba) (w_CL_up (w_CL_up (w_CL_up (w_CL_up (w_CL_up (w_CL_up (CL_tr hC tr49) (by omega)) (by omega)) (by omega)) (by omega)) (by omega)) (by omega)) (gI_up (gI_up (gI_up (gI_up (gI_up (gI_up tr49.2.2.2.2.2.1 (by omega) (by omega) (by omega)) (by omega) (by omega) (by omega)) (by omega) (by omega) (by omega)) (by omega) (by omega) (by omega)) (by omega) (by omega) (by omega)) (by omega) (by omega) (by omega)) ((w_up_at (by decide)).trans ((w_up_at (by decide)).trans ((w_up_slot (by decide)).trans ((w_up_slot (by decide)).trans ((w_up_at (by decide)).trans ((w_up_at (by decide)).trans (((tr49.2.2.2.1 158 4 (by decide) (by decide) (by decide) (Or.inl (by decide))).trans (l4))))))))) ((w_up_at (by decide)).trans ((w_up_at (by decide)).trans ((w_up_slot (by decide)).trans ((w_up_slot (by decide)).trans ((w_up_at (by decide)).trans ((w_up_at (by decide)).trans (((tr49.2.2.2.1 158 5 (by decide) (by decide) (by decide) (Or.inl (by decide))).trans (l5))))))))) ((w_up_at (by decide)).trans ((w_up_at (by decide)).trans ((w_up_slot (by decide)).trans ((w_up_slot (by decide)).trans ((w_up_at (by decide)).trans ((w_up_at (by decide)).trans (((tr49.2.2.2.1 158 8 (by decide) (by decide) (by decide) (Or.inl (by decide))).trans (l8))))))))) ((w_up_slot (by decide)).trans ((w_up_slot (by decide)).trans ((w_up_slot (by decide)).trans ((w_up_slot (by decide)).trans ((w_up_slot (by decide)).trans ((w_up_slot (by decide)).trans (((tr49.2.2.2.1 226 4 (by decide) (by decide) (by decide) (Or.inl (by decide))).trans (bc))))))))) ((w_up_slot (by decide)).trans ((w_up_slot (by decide)).trans ((w_up_slot (by decide)).trans ((w_up_slot (by decide)).trans ((w_up_slot (by decide)).trans ((w_up_slot (by decide)).trans (((tr49.2.2.2.1 231 (c - 1) (by decide) (by decide) (by decide) (Or.inl (by decide))).trans (bp))))))))) ((((w_up_slot (by decide)).trans ((w_up_slot (by decide)).trans ((w_up_slot (by decide)).trans ((w_up_slot (by decide)).trans ((w_up_slot (by decide)).trans ((w_up_slot (by decide)).trans (((tr49.2.2.2.1 229 (-1) (by decide) (by decide) (by decide) (Or.inl (by decide))).trans (bl1)))))))))).trans (((w_up_slot (by decide)).trans ((w_up_slot (by decide)).trans ((w_up_slot (by decide)).trans ((w_up_slot (by decide)).trans ((w_up_slot (by decide)).trans ((w_up_slot (by decide)).trans (((tr49.2.2.2.1 228 (-1) (by decide) (by decide) (by decide) (Or.inl (by decide))).trans (rfl)))))))))).symm) (by have e : (w_up (w_up (w_up (w_up (w_up (w_up Sq49 158 16 0) 158 17 0) 206 fi k1) 207 fi v1) 158 16 ky) 158 17 vy) 228 (-1) = S 228 (-1) := ((w_up_slot (by decide)).trans ((w_up_slot (by decide)).trans ((w_up_slot (by decide)).trans ((w_up_slot (by decide)).trans ((w_up_slot (by decide)).trans ((w_up_slot (by decide)).trans (((tr49.2.2.2.1 228 (-1) (by decide) (by decide) (by decide) (Or.inl (by decide))).trans (rfl))))))))); rw [e]; exact ⟨bl2, bl3⟩) (by have e : (w_up (w_up (w_up (w_up (w_up (w_up Sq49 158 16 0) 158 17 0) 206 fi k1) 207 fi v1) 158 16 ky) 158 17 vy) 228 (-1) = S 228 (-1) := ((w_up_slot (by decide)).trans ((w_up_slot (by decide)).trans ((w_up_slot (by decide)).trans ((w_up_slot (by decide)).trans ((w_up_slot (by decide)).trans ((w_up_slot (by decide)).trans (((tr49.2.2.2.1 228 (-1) (by decide) (by decide) (by decide) (Or.inl (by decide))).trans (rfl))))))))); omega) ⟨by omega, by omega⟩ ⟨by omega, by omega⟩ ⟨by omega, by omega⟩ ⟨by omega, by omega⟩) (fun oq73 Sq73 hp74 q73 => ?_)
                        rcases q73 with ⟨rfl, hgv73⟩
                        show wJ _ _ _ _ _ _ _ _ _ _
                        refine wa_return rfl ?_
                        refine ⟨rfl, Or.inr ⟨by omega, Sq49, (w_up (w_up (w_up (w_up (w_up (w_up Sq49 158 16 0) 158 17 0) 206 fi k1) 207 fi v1) 158 16 ky) 158 17 vy), tr49, ?_, ?_⟩⟩
                        · exact fun j i hji => (w_up_no (by omega)).trans ((w_up_no (by omega)).trans (w_up_cg2 (w_up_cg2 ((w_up_no (by omega)).trans (w_up_no (by omega))))))
                        · first | (rw [if_pos (show kd = 1 by omega), if_pos (show kd = 1 by omega)]; exact hgv73) | (rw [if_neg (show ¬ kd = 1 by omega), if_neg (show ¬ kd = 1 by omega)]; exact hgv73)
                  · skip
                    exact absurd c51 (by omega)
                · skip
                  exact absurd c47 (by omega)
              · skip
                exact absurd c46 (by omega)
          · skip
            exact absurd c42 (by omega)
        · skip
          exact absurd c41 (by omega)
  · skip
    exact absurd c3 (by omega)
set_option maxHeartbeats 4000000 in
theorem cmg0_162_226 {c p h kd ba m en tn ky vy fl fi gb ty st vk vb : Int} (hP : xP 226 c p h S) (l4 : S 158 4 = 226) (l5 : S 158 5 = 227) (l7 : S 158 7 = kd) (l8 : S 158 8 = ba) (l12 : S 158 12 = en) (hen : 0 ≤ en ∧ en ≤ 1000) (hba : 0 ≤ ba ∧ ba < h) (h72 : S 72 1 = 162) (hm : 0 ≤ m ∧ m < 400) (hso : S 187 m = 1) (ht15 : S 72 15 = tn) (ht0 : 0 ≤ tn ∧ tn ≤ S 152 (-1) ∧ tn ≤ 100000) (ht9 : 16 ≤ S 152 (-1) ∧ S 152 (-1) ≤ 131072 ∨ (16 ≤ S 152 (-1) ∧ S 152 (-1) ≤ 262143 ∧ tn + 2 ≤ S 152 (-1))) (hky : S 228 (h - 1) = ky) (hvy : S 229 (h - 1) = vy) (hkr : -128 ≤ ky ∧ ky ≤ 127) (hvr : -9223372036854775808 ≤ vy ∧ vy ≤ 9223372036854775807) (hmf : S 201 m = fl) (hfl : 0 ≤ fl ∧ fl < 400) (hstt : S 188 fl = 0) (hfi : S 201 fl = fi) (l10 : S 158 10 = gb) (hmt : S 189 m = ty) (hmc : S 190 m = 0) (hth : ∀ x : Nat, x < 10 → S (127 + x) (-1) = S 127 (-1)) (hn2 : S 127 (-1) ≤ 16383) (hl14 : S 142 (-1) = S 141 (-1)) (hz14 : 16 ≤ S 141 (-1) ∧ S 141 (-1) ≤ 480400) (hgb : 0 ≤ gb ∧ gb < S 127 (-1)) (hst : S 133 gb = st) (hrb : 0 ≤ st ∧ 0 ≤ fi ∧ fi ≤ 1000 ∧ st + fi < S 141 (-1)) (hvk : S 141 (st + fi) = vk) (hvb : S 142 (st + fi) = vb) (hvr2 : -128 ≤ vk ∧ vk ≤ 127) (hvs : -9223372036854775808 ≤ vb ∧ vb ≤ 9223372036854775807) : wJ (pe_GA xs) wY0 (mS [228, 229, 152]) (d + 6) t_XL_callMember ((pe_at t_XL_callMember.bl 0).getD (0, [])).2 [(0, (2, 158)), (1, (0, m))] [] S (fun o Z => o = .inl none ∧ ((100000 < tn + 2 ∧ w_up S 226 16 99 = Z) ∨ (¬ (100000 < tn + 2) ∧ cmE 226 h c p (h - ba) kd ky vy vk vb m en gvR S Z))) := by
  obtain ⟨⟨hC, hI⟩, ⟨bc, bc0, bc1⟩, ⟨bp, bp0, bp1⟩, ⟨bh, bh0, bh1, bh2⟩, bl1, bl2, bl3⟩ := hP
  replace bp : S 231 (c - 1) = p := bp
  replace bh : S 227 2 = h := bh
  replace bh2 : h ≤ S 228 (-1) := bh2
  replace bl1 : S 229 (-1) = S 228 (-1) := bl1
  replace bl2 : 64 ≤ S 228 (-1) := bl2
  replace bl3 : S 228 (-1) ≤ 4095 := bl3
  refine wa_aload_n (n := 0) rfl ?_
  refine wb_gf4 158 rfl (wy_pr rfl) wt_158 wf_5_0 (v := 72) wl_158_0 ?_
  refine wb_gf5 72 rfl (wy_pr rfl) wt_72 wf_2_1 (v := 162) (h72) (fun r1 => ?_)
  refine wa_astore_n (n := 2) rfl ?_
  refine wa_aload_n (n := 2) rfl ?_
  refine wb_gf4 162 rfl (wy_pr rfl) wt_162 wf_3_3 (v := 185) wl_162_3 ?_
  refine wa_iconst ?_
  refine wb_aald5 185 1 rfl rfl (wy_pr rfl) wt_185 (by rw [show _ = _ from ((cl_185 hC))]; omega) wl_185_1 ?_
  refine wa_iload_n (n := 1) rfl ?_
  refine wb_iald 187 rfl (wy_pr rfl) wt_187 (n := 400) ((cl_187 hC)) (by omega) (by omega) (v := 1) (hso) (fun r2 => ?_)
  refine wa_iconst ?_
  refine wa_icmpne (w_rg0 (by omega) (by omega)) (w_rg0 (by omega) (by omega)) ⟨_, rfl⟩ (fun c3 => ?_) (fun c3 => ?_)
  · skip
    refine wa_iconst ?_
    refine wa_fall ⟨_, rfl⟩ ?_
    refine wa_istore_n (n := 3) rfl ?_
    refine wa_iload_n (n := 3) rfl ?_
    refine wa_ifne (w_rg0 (by omega) (by omega)) ⟨_, rfl⟩ (fun c4 => ?_) (fun c4 => ?_)
    · skip
      exact absurd c4 (by omega)
    · skip
      refine wa_aload_n (n := 2) rfl ?_
      refine wb_gf4 162 rfl (wy_pr rfl) wt_162 wf_3_3 (v := 185) wl_162_3 ?_
      refine wa_iconst ?_
      refine wb_aald5 185 3 rfl rfl (wy_pr rfl) wt_185 (by rw [show _ = _ from ((cl_185 hC))]; omega) wl_185_3 ?_
      refine wa_iload_n (n := 1) rfl ?_
      refine wb_iald 189 rfl (wy_pr rfl) wt_189 (n := 400) ((cl_189 hC)) (by omega) (by omega) (v := ty) (hmt) (fun r5 => ?_)
      refine wa_bipush (w_rg2 (by omega) (by omega)) ?_
      refine wa_icmpne (w_rg0 (by omega) (by omega)) (w_rg0 (by omega) (by omega)) ⟨_, rfl⟩ (fun c6 => ?_) (fun c6 => ?_)
      · skip
        refine wa_iconst ?_
        refine wa_fall ⟨_, rfl⟩ ?_
        refine wa_istore (n := 4) rfl ?_
        refine wa_iload_n (n := 3) rfl ?_
        refine wa_ifeq (w_rg0 (by omega) (by omega)) ⟨_, rfl⟩ (fun c7 => ?_) (fun c7 => ?_)
        · skip
          refine wa_iconst ?_
          refine wa_fall ⟨_, rfl⟩ ?_
          refine wa_istore (n := 5) rfl ?_
          refine wa_aload_n (n := 0) rfl ?_
          refine wb_gf4 158 rfl (wy_pr rfl) wt_158 wf_5_0 (v := 72) wl_158_0 ?_
          refine wb_gfi 72 rfl (wy_pr rfl) wt_72 wf_2_15 (v := tn) (ht15) (fun r8 => ?_)
          refine wa_iconst ?_
          refine wa_iadd ?_
          refine wb_ki (n := 100000) rfl ?_
          refine wa_icmpgt (w_rg0 (by omega) (by omega)) (w_rg0 (by omega) (by omega)) ⟨_, rfl⟩ (fun c9 => ?_) (fun c9 => ?_)
          · skip
            refine wa_aload_n (n := 0) rfl ?_
            refine wb_gf5 158 rfl (wy_pr rfl) wt_158 wf_5_4 (v := 226) (l4) (fun r10 => ?_)
            refine wa_bipush (w_rg2 (by omega) (by omega)) ?_
            refine wb_pfi 226 rfl (wy_pr rfl) wt_226 wf_8_16 (n := 16) rfl ⟨(by omega), (by omega)⟩ ?_
            refine wa_return rfl ?_
            exact ⟨rfl, Or.inl ⟨by omega, rfl⟩⟩
          · skip
            refine wa_iload_n (n := 3) rfl ?_
            refine wa_ifeq (w_rg0 (by omega) (by omega)) ⟨_, rfl⟩ (fun c11 => ?_) (fun c11 => ?_)
            · skip
              refine wa_iload (n := 4) rfl ?_
              refine wa_ifeq (w_rg0 (by omega) (by omega)) ⟨_, rfl⟩ (fun c12 => ?_) (fun c12 => ?_)
              · skip
                refine wa_aload_n (n := 0) rfl ?_
                refine wb_gf4 158 rfl (wy_pr rfl) wt_158 wf_5_0 (v := 72) wl_158_0 ?_
                refine wa_iload_n (n := 1) rfl ?_
                refine wa_aload_n (n := 0) rfl ?_
                refine wb_gfi 158 rfl (wy_pr rfl) wt_158 wf_5_12 (v := en) (l12) (fun r13 => ?_)
                refine wa_cv 72 rfl (wy_pr rfl) wt_72 (M2 := mS [152]) rfl at_XH_addTrace ⟨_, rfl⟩ rfl rfl ⟨trivial, trivial, trivial, (Or.inr ⟨wy_pr rfl, mS_no rfl⟩), (Or.inr ⟨wy_pr rfl, mS_no rfl⟩), trivial, trivial⟩ trivial (fun _ _ q => mS_sub (by decide) q) (tra (S := S) (m := m) (k := en) hI ⟨by omega, by omega⟩ ⟨by omega, by omega⟩ (by rw [ht15]; exact ht0) (by rw [ht15]; exact ht9)) (fun oq14 Sq14 hp15 q14 => ?_)
                rcases q14 with ⟨rfl, tr14⟩
                show wJ _ _ _ _ _ _ _ _ _ _
                refine wa_aload_n (n := 0) rfl ?_
                refine wa_iconst ?_
                refine wb_pfi 158 rfl (wy_pr rfl) wt_158 wf_5_16 (n := 16) rfl ⟨(by omega), (by omega)⟩ ?_
                refine wa_aload_n (n := 0) rfl ?_
                refine wb_lconst (m := 0) rfl ?_
                refine wb_pfl 158 rfl (wy_pr rfl) wt_158 wf_5_17 (n := 17) rfl ⟨(by omega), (by omega)⟩ ?_
                refine wa_iload_n (n := 3) rfl ?_
                refine wa_ifeq (w_rg0 (by omega) (by omega)) ⟨_, rfl⟩ (fun c16 => ?_) (fun c16 => ?_)
                · skip
                  refine wa_aload_n (n := 2) rfl ?_
                  refine wb_gf4 162 rfl (wy_pr rfl) wt_162 wf_3_3 (v := 185) wl_162_3 ?_
                  refine wa_bipush (w_rg2 (by omega) (by omega)) ?_
                  refine wb_aald5 185 15 rfl rfl (wy_pr rfl) wt_185 (by rw [show _ = _ from ((w_up_slot (by decide)).trans ((w_up_slot (by decide)).trans (((tr14.2.2.2.1 185 (-1) (by decide) (by decide) (by decide) (Or.inl (by decide))).trans ((cl_185 hC))))))]; omega) wl_185_15 ?_
                  refine wa_iload_n (n := 1) rfl ?_
                  refine wb_iald 201 rfl (wy_pr rfl) wt_201 (n := 400) ((w_up_slot (by decide)).trans ((w_up_slot (by decide)).trans (((tr14.2.2.2.1 201 (-1) (by decide) (by decide) (by decide) (Or.inl (by decide))).trans ((cl_201 hC)))))) (by omega) (by omega) (v := fl) ((w_up_slot (by decide)).trans ((w_up_slot (by decide)).trans (((tr14.2.2.2.1 201 m (by decide) (by decide) (by decide) (Or.inl (by decide))).trans (hmf))))) (fun r17 => ?_)
                  refine wa_iconst ?_
                  refine wa_icmpeq (w_rg0 (by omega) (by omega)) (w_rg0 (by omega) (by omega)) ⟨_, rfl⟩ (fun c18 => ?_) (fun c18 => ?_)
                  · skip
                    exact absurd c18 (by omega)
                  · skip
                    refine wa_aload_n (n := 0) rfl ?_
                    refine wa_iload_n (n := 1) rfl ?_
                    refine wa_aload_n (n := 2) rfl ?_
                    refine wb_gf4 162 rfl (wy_pr rfl) wt_162 wf_3_3 (v := 185) wl_162_3 ?_
                    refine wa_bipush (w_rg2 (by omega) (by omega)) ?_
                    refine wb_aald5 185 15 rfl rfl (wy_pr rfl) wt_185 (by rw [show _ = _ from ((w_up_slot (by decide)).trans ((w_up_slot (by decide)).trans (((tr14.2.2.2.1 185 (-1) (by decide) (by decide) (by decide) (Or.inl (by decide))).trans ((cl_185 hC))))))]; omega) wl_185_15 ?_
                    refine wa_iload_n (n := 1) rfl ?_
                    refine wb_iald 201 rfl (wy_pr rfl) wt_201 (n := 400) ((w_up_slot (by decide)).trans ((w_up_slot (by decide)).trans (((tr14.2.2.2.1 201 (-1) (by decide) (by decide) (by decide) (Or.inl (by decide))).trans ((cl_201 hC)))))) (by omega) (by omega) (v := fl) ((w_up_slot (by decide)).trans ((w_up_slot (by decide)).trans (((tr14.2.2.2.1 201 m (by decide) (by decide) (by decide) (Or.inl (by decide))).trans (hmf))))) (fun r19 => ?_)
                    have hf2 : ∀ (j : Nat) (i : Int), j < 4000000 → j ≠ wG → j ≠ 152 → j ≠ 72 → j ≠ 158 → (w_up (w_up Sq14 158 16 0) 158 17 0) j i = S j i := fun j i a b c d e => (w_up_no (fun z => e z.1)).trans ((w_up_no (fun z => e z.1)).trans (tr14.2.2.2.1 j i a b c (Or.inl d)))
                    have el : (w_up (w_up Sq14 158 16 0) 158 17 0) 141 (-1) = S 141 (-1) := (hf2 141 _ (by first | decide | omega) (by first | decide | omega) (by first | decide | omega) (by first | decide | omega) (by first | decide | omega))
                    have el2 : (w_up (w_up Sq14 158 16 0) 158 17 0) 142 (-1) = S 142 (-1) := (hf2 142 _ (by first | decide | omega) (by first | decide | omega) (by first | decide | omega) (by first | decide | omega) (by first | decide | omega))
                    have el3 : (w_up (w_up Sq14 158 16 0) 158 17 0) 127 (-1) = S 127 (-1) := (hf2 127 _ (by first | decide | omega) (by first | decide | omega) (by first | decide | omega) (by first | decide | omega) (by first | decide | omega))
                    refine wa_cv 158 rfl (wy_pr rfl) wt_158 (M2 := fun _ => False) rfl at_XL_useField ⟨_, rfl⟩ rfl rfl ⟨trivial, trivial, trivial, (Or.inr ⟨wy_pr rfl, fun q => q⟩), (Or.inr ⟨wy_pr rfl, fun q => q⟩), trivial, trivial⟩ trivial (fun _ _ q => False.elim q) (usg0_162_226 (S := (w_up (w_up Sq14 158 16 0) 158 17 0)) (m := m) (f := fl) (w_CL_up (w_CL_up (CL_tr hC tr14) (by omega)) (by omega)) ((w_up_slot (by decide)).trans ((w_up_slot (by decide)).trans (((tr14.2.2.2.1 72 1 (by decide) (by decide) (by decide) (Or.inr (by decide))).trans (h72))))) ((w_up_at (by decide)).trans ((w_up_at (by decide)).trans (((tr14.2.2.2.1 158 5 (by decide) (by decide) (by decide) (Or.inl (by decide))).trans (l5))))) ((w_up_at (by decide)).trans ((w_up_at (by decide)).trans (((tr14.2.2.2.1 158 8 (by decide) (by decide) (by decide) (Or.inl (by decide))).trans (l8))))) (((w_up_at (by decide)).trans ((w_up_at (by decide)).trans ((tr14.2.2.2.1 158 10 (by decide) (by decide) (by decide) (Or.inl (by decide)))))).trans l10) hm hfl ((hf2 188 _ (by decide) (by decide) (by decide) (by decide) (by decide)).trans hstt) ((hf2 201 _ (by decide) (by decide) (by decide) (by decide) (by decide)).trans hfi) (fun x hx => by rw [hf2 (127 + x) (-1) (by omega) (by unfold wG; omega) (by omega) (by omega) (by omega), el3]; exact hth x hx) (by rw [el3]; exact hn2) (by rw [el, el2]; exact hl14) (by rw [el]; exact hz14) (by rw [el3]; exact hgb) ((hf2 133 _ (by decide) (by decide) (by decide) (by decide) (by decide)).trans hst) (by rw [el]; exact hrb) ((hf2 190 _ (by decide) (by decide) (by decide) (by decide) (by decide)).trans hmc) ((hf2 141 _ (by decide) (by decide) (by decide) (by decide) (by decide)).trans hvk) ((hf2 142 _ (by decide) (by decide) (by decide) (by decide) (by decide)).trans hvb)) (fun oq20 Sq20 hp21 q20 => ?_)
                    rcases q20 with ⟨rfl, rfl⟩
                    show wJ _ _ _ _ _ _ _ _ _ _
                    refine wa_goto ⟨_, rfl⟩ ?_
                    refine wa_aload_n (n := 0) rfl ?_
                    refine wb_gfi 158 rfl (wy_pr rfl) wt_158 wf_5_7 (v := kd) ((w_up_at (by decide)).trans ((w_up_at (by decide)).trans ((w_up_at (by decide)).trans ((w_up_at (by decide)).trans (((tr14.2.2.2.1 158 7 (by decide) (by decide) (by decide) (Or.inl (by decide))).trans (l7))))))) (fun r22 => ?_)
                    refine wa_iconst ?_
                    refine wa_icmpne (w_rg0 (by omega) (by omega)) (w_rg0 (by omega) (by omega)) ⟨_, rfl⟩ (fun c23 => ?_) (fun c23 => ?_)
                    · skip
                      refine wa_aload_n (n := 0) rfl ?_
                      refine wa_aload_n (n := 0) rfl ?_
                      refine wb_gfi 158 rfl (wy_pr rfl) wt_158 wf_5_16 (v := vk) ((w_up_at (by decide)).trans (w_up_same _ _ _ _)) (fun r24 => ?_)
                      refine wa_aload_n (n := 0) rfl ?_
                      refine wb_gfl 158 rfl (wy_pr rfl) wt_158 wf_5_17 (v := vb) (w_up_same _ _ _ _) (fun r25 => ?_)
                      refine wa_cv 158 rfl (wy_pr rfl) wt_158 (M2 := mS [228, 229]) rfl at_XL_giveValue ⟨_, rfl⟩ rfl rfl ⟨trivial, trivial, trivial, (Or.inr ⟨wy_pr rfl, mS_no rfl⟩), (Or.inr ⟨wy_pr rfl, mS_no rfl⟩), trivial, trivial⟩ trivial (fun _ _ q => mS_sub (by decide) q) (glx_226 (S := (w_up (w_up (w_up (w_up Sq14 158 16 0) 158 17 0) 158 16 vk) 158 17 vb)) (k := vk) (v := vb) (h := h) (c := c) (p := p) (ba := ba) (w_CL_up (w_CL_up (w_CL_up (w_CL_up (CL_tr hC tr14) (by omega)) (by omega)) (by omega)) (by omega)) (gI_up (gI_up (gI_up (gI_up tr14.2.2.2.2.2.1 (by omega) (by omega) (by omega)) (by omega) (by omega) (by omega)) (by omega) (by omega) (by omega)) (by omega) (by omega) (by omega)) ((w_up_at (by decide)).trans ((w_up_at (by decide)).trans ((w_up_at (by decide)).trans ((w_up_at (by decide)).trans (((tr14.2.2.2.1 158 4 (by decide) (by decide) (by decide) (Or.inl (by decide))).trans (l4))))))) ((w_up_at (by decide)).trans ((w_up_at (by decide)).trans ((w_up_at (by decide)).trans ((w_up_at (by decide)).trans (((tr14.2.2.2.1 158 5 (by decide) (by decide) (by decide) (Or.inl (by decide))).trans (l5))))))) ((w_up_at (by decide)).trans ((w_up_at (by decide)).trans ((w_up_at (by decide)).trans ((w_up_at (by decide)).trans (((tr14.2.2.2.1 158 8 (by decide) (by decide) (by decide) (Or.inl (by decide))).trans (l8))))))) ((w_up_slot (by decide)).trans ((w_up_slot (by decide)).trans ((w_up_slot (by decide)).trans ((w_up_slot (by decide)).trans (((tr14.2.2.2.1 226 4 (by decide) (by decide) (by decide) (Or.inl (by decide))).trans (bc))))))) ((w_up_slot (by decide)).trans ((w_up_slot (by decide)).trans ((w_up_slot (by decide)).trans ((w_up_slot (by decide)).trans (((tr14.2.2.2.1 231 (c - 1) (by decide) (by decide) (by decide) (Or.inl (by decide))).trans (bp))))))) ((((w_up_slot (by decide)).trans ((w_up_slot (by decide)).trans ((w_up_slot (by decide)).trans ((w_up_slot (by decide)).trans (((tr14.2.2.2.1 229 (-1) (by decide) (by decide) (by decide) (Or.inl (by decide))).trans (bl1)))))))).trans (((w_up_slot (by decide)).trans ((w_up_slot (by decide)).trans ((w_up_slot (by decide)).trans ((w_up_slot (by decide)).trans (((tr14.2.2.2.1 228 (-1) (by decide) (by decide) (by decide) (Or.inl (by decide))).trans (rfl)))))))).symm) (by have e : (w_up (w_up (w_up (w_up Sq14 158 16 0) 158 17 0) 158 16 vk) 158 17 vb) 228 (-1) = S 228 (-1) := ((w_up_slot (by decide)).trans ((w_up_slot (by decide)).trans ((w_up_slot (by decide)).trans ((w_up_slot (by decide)).trans (((tr14.2.2.2.1 228 (-1) (by decide) (by decide) (by decide) (Or.inl (by decide))).trans (rfl))))))); rw [e]; exact ⟨bl2, bl3⟩) (by have e : (w_up (w_up (w_up (w_up Sq14 158 16 0) 158 17 0) 158 16 vk) 158 17 vb) 228 (-1) = S 228 (-1) := ((w_up_slot (by decide)).trans ((w_up_slot (by decide)).trans ((w_up_slot (by decide)).trans ((w_up_slot (by decide)).trans (((tr14.2.2.2.1 228 (-1) (by decide) (by decide) (by decide) (Or.inl (by decide))).trans (rfl))))))); omega) ⟨by omega, by omega⟩ ⟨by omega, by omega⟩ ⟨by omega, by omega⟩ ⟨by omega, by omega⟩) (fun oq26 Sq26 hp27 q26 => ?_)
                      rcases q26 with ⟨rfl, hgv26⟩
                      show wJ _ _ _ _ _ _ _ _ _ _
                      refine wa_return rfl ?_
                      refine ⟨rfl, Or.inr ⟨by omega, Sq14, (w_up (w_up (w_up (w_up Sq14 158 16 0) 158 17 0) 158 16 vk) 158 17 vb), tr14, ?_, ?_⟩⟩
                      · exact fun j i hji => (w_up_no (by omega)).trans ((w_up_no (by omega)).trans ((w_up_no (by omega)).trans ((w_up_no (by omega)).trans (rfl))))
                      · first | (rw [if_pos (show kd = 1 by omega), if_pos (show kd = 1 by omega)]; exact hgv26) | (rw [if_neg (show ¬ kd = 1 by omega), if_neg (show ¬ kd = 1 by omega)]; exact hgv26)
                    · skip
                      refine wa_aload_n (n := 0) rfl ?_
                      refine wa_aload_n (n := 0) rfl ?_
                      refine wb_gf5 158 rfl (wy_pr rfl) wt_158 wf_5_5 (v := 227) ((w_up_at (by decide)).trans ((w_up_at (by decide)).trans ((w_up_at (by decide)).trans ((w_up_at (by decide)).trans (((tr14.2.2.2.1 158 5 (by decide) (by decide) (by decide) (Or.inl (by decide))).trans (l5))))))) (fun r28 => ?_)
                      refine wb_gf4 227 rfl (wy_pr rfl) wt_227 wf_7_0 (v := 228) wl_227_0 ?_
                      refine wa_aload_n (n := 0) rfl ?_
                      refine wb_gf5 158 rfl (wy_pr rfl) wt_158 wf_5_5 (v := 227) ((w_up_at (by decide)).trans ((w_up_at (by decide)).trans ((w_up_at (by decide)).trans ((w_up_at (by decide)).trans (((tr14.2.2.2.1 158 5 (by decide) (by decide) (by decide) (Or.inl (by decide))).trans (l5))))))) (fun r29 => ?_)
                      refine wb_gfi 227 rfl (wy_pr rfl) wt_227 wf_7_2 (v := h) ((w_up_slot (by decide)).trans ((w_up_slot (by decide)).trans ((w_up_slot (by decide)).trans ((w_up_slot (by decide)).trans (((tr14.2.2.2.1 227 2 (by decide) (by decide) (by decide) (Or.inl (by decide))).trans (bh))))))) (fun r30 => ?_)
                      refine wa_iconst ?_
                      refine wa_isub ?_
                      refine wb_bald 228 rfl (wy_pr rfl) wt_228 (n := (S 228 (-1))) ((w_up_slot (by decide)).trans ((w_up_slot (by decide)).trans ((w_up_slot (by decide)).trans ((w_up_slot (by decide)).trans (((tr14.2.2.2.1 228 (-1) (by decide) (by decide) (by decide) (Or.inl (by decide))).trans (rfl))))))) (by omega) (by omega) (v := ky) ((w_up_slot (by decide)).trans ((w_up_slot (by decide)).trans ((w_up_slot (by decide)).trans ((w_up_slot (by decide)).trans (((tr14.2.2.2.1 228 (h - 1) (by decide) (by decide) (by decide) (Or.inl (by decide))).trans (hky))))))) (fun r31 => ?_)
                      refine wb_pfi 158 rfl (wy_pr rfl) wt_158 wf_5_16 (n := 16) rfl ⟨(by omega), (by omega)⟩ ?_
                      refine wa_aload_n (n := 0) rfl ?_
                      refine wa_aload_n (n := 0) rfl ?_
                      refine wb_gf5 158 rfl (wy_pr rfl) wt_158 wf_5_5 (v := 227) ((w_up_at (by decide)).trans ((w_up_at (by decide)).trans ((w_up_at (by decide)).trans ((w_up_at (by decide)).trans ((w_up_at (by decide)).trans (((tr14.2.2.2.1 158 5 (by decide) (by decide) (by decide) (Or.inl (by decide))).trans (l5)))))))) (fun r32 => ?_)
                      refine wb_gf4 227 rfl (wy_pr rfl) wt_227 wf_7_1 (v := 229) wl_227_1 ?_
                      refine wa_aload_n (n := 0) rfl ?_
                      refine wb_gf5 158 rfl (wy_pr rfl) wt_158 wf_5_5 (v := 227) ((w_up_at (by decide)).trans ((w_up_at (by decide)).trans ((w_up_at (by decide)).trans ((w_up_at (by decide)).trans ((w_up_at (by decide)).trans (((tr14.2.2.2.1 158 5 (by decide) (by decide) (by decide) (Or.inl (by decide))).trans (l5)))))))) (fun r33 => ?_)
                      refine wb_gfi 227 rfl (wy_pr rfl) wt_227 wf_7_2 (v := h) ((w_up_slot (by decide)).trans ((w_up_slot (by decide)).trans ((w_up_slot (by decide)).trans ((w_up_slot (by decide)).trans ((w_up_slot (by decide)).trans (((tr14.2.2.2.1 227 2 (by decide) (by decide) (by decide) (Or.inl (by decide))).trans (bh)))))))) (fun r34 => ?_)
                      refine wa_iconst ?_
                      refine wa_isub ?_
                      refine wb_lald 229 rfl (wy_pr rfl) wt_229 (n := (S 228 (-1))) ((w_up_slot (by decide)).trans ((w_up_slot (by decide)).trans ((w_up_slot (by decide)).trans ((w_up_slot (by decide)).trans ((w_up_slot (by decide)).trans (((tr14.2.2.2.1 229 (-1) (by decide) (by decide) (by decide) (Or.inl (by decide))).trans (bl1)))))))) (by omega) (by omega) (v := vy) ((w_up_slot (by decide)).trans ((w_up_slot (by decide)).trans ((w_up_slot (by decide)).trans ((w_up_slot (by decide)).trans ((w_up_slot (by decide)).trans (((tr14.2.2.2.1 229 (h - 1) (by decide) (by decide) (by decide) (Or.inl (by decide))).trans (hvy)))))))) (fun r35 => ?_)
                      refine wb_pfl 158 rfl (wy_pr rfl) wt_158 wf_5_17 (n := 17) rfl ⟨(by omega), (by omega)⟩ ?_
                      refine wa_fall ⟨_, rfl⟩ ?_
                      refine wa_aload_n (n := 0) rfl ?_
                      refine wa_aload_n (n := 0) rfl ?_
                      refine wb_gfi 158 rfl (wy_pr rfl) wt_158 wf_5_16 (v := ky) ((w_up_at (by decide)).trans (w_up_same _ _ _ _)) (fun r36 => ?_)
                      refine wa_aload_n (n := 0) rfl ?_
                      refine wb_gfl 158 rfl (wy_pr rfl) wt_158 wf_5_17 (v := vy) (w_up_same _ _ _ _) (fun r37 => ?_)
                      refine wa_cv 158 rfl (wy_pr rfl) wt_158 (M2 := mS [228, 229]) rfl at_XL_giveValue ⟨_, rfl⟩ rfl rfl ⟨trivial, trivial, trivial, (Or.inr ⟨wy_pr rfl, mS_no rfl⟩), (Or.inr ⟨wy_pr rfl, mS_no rfl⟩), trivial, trivial⟩ trivial (fun _ _ q => mS_sub (by decide) q) (glx_226 (S := (w_up (w_up (w_up (w_up (w_up (w_up Sq14 158 16 0) 158 17 0) 158 16 vk) 158 17 vb) 158 16 ky) 158 17 vy)) (k := ky) (v := vy) (h := h) (c := c) (p := p) (ba := ba) (w_CL_up (w_CL_up (w_CL_up (w_CL_up (w_CL_up (w_CL_up (CL_tr hC tr14) (by omega)) (by omega)) (by omega)) (by omega)) (by omega)) (by omega)) (gI_up (gI_up (gI_up (gI_up (gI_up (gI_up tr14.2.2.2.2.2.1 (by omega) (by omega) (by omega)) (by omega) (by omega) (by omega)) (by omega) (by omega) (by omega)) (by omega) (by omega) (by omega)) (by omega) (by omega) (by omega)) (by omega) (by omega) (by omega)) ((w_up_at (by decide)).trans ((w_up_at (by decide)).trans ((w_up_at (by decide)).trans ((w_up_at (by decide)).trans ((w_up_at (by decide)).trans ((w_up_at (by decide)).trans (((tr14.2.2.2.1 158 4 (by decide) (by decide) (by decide) (Or.inl (by decide))).trans (l4))))))))) ((w_up_at (by decide)).trans ((w_up_at (by decide)).trans ((w_up_at (by decide)).trans ((w_up_at (by decide)).trans ((w_up_at (by decide)).trans ((w_up_at (by decide)).trans (((tr14.2.2.2.1 158 5 (by decide) (by decide) (by decide) (Or.inl (by decide))).trans (l5))))))))) ((w_up_at (by decide)).trans ((w_up_at (by decide)).trans ((w_up_at (by decide)).trans ((w_up_at (by decide)).trans ((w_up_at (by decide)).trans ((w_up_at (by decide)).trans (((tr14.2.2.2.1 158 8 (by decide) (by decide) (by decide) (Or.inl (by decide))).trans (l8))))))))) ((w_up_slot (by decide)).trans ((w_up_slot (by decide)).trans ((w_up_slot (by decide)).trans ((w_up_slot (by decide)).trans ((w_up_slot (by decide)).trans ((w_up_slot (by decide)).trans (((tr14.2.2.2.1 226 4 (by decide) (by decide) (by decide) (Or.inl (by decide))).trans (bc))))))))) ((w_up_slot (by decide)).trans ((w_up_slot (by decide)).trans ((w_up_slot (by decide)).trans ((w_up_slot (by decide)).trans ((w_up_slot (by decide)).trans ((w_up_slot (by decide)).trans (((tr14.2.2.2.1 231 (c - 1) (by decide) (by decide) (by decide) (Or.inl (by decide))).trans (bp))))))))) ((((w_up_slot (by decide)).trans ((w_up_slot (by decide)).trans ((w_up_slot (by decide)).trans ((w_up_slot (by decide)).trans ((w_up_slot (by decide)).trans ((w_up_slot (by decide)).trans (((tr14.2.2.2.1 229 (-1) (by decide) (by decide) (by decide) (Or.inl (by decide))).trans (bl1)))))))))).trans (((w_up_slot (by decide)).trans ((w_up_slot (by decide)).trans ((w_up_slot (by decide)).trans ((w_up_slot (by decide)).trans ((w_up_slot (by decide)).trans ((w_up_slot (by decide)).trans (((tr14.2.2.2.1 228 (-1) (by decide) (by decide) (by decide) (Or.inl (by decide))).trans (rfl)))))))))).symm) (by have e : (w_up (w_up (w_up (w_up (w_up (w_up Sq14 158 16 0) 158 17 0) 158 16 vk) 158 17 vb) 158 16 ky) 158 17 vy) 228 (-1) = S 228 (-1) := ((w_up_slot (by decide)).trans ((w_up_slot (by decide)).trans ((w_up_slot (by decide)).trans ((w_up_slot (by decide)).trans ((w_up_slot (by decide)).trans ((w_up_slot (by decide)).trans (((tr14.2.2.2.1 228 (-1) (by decide) (by decide) (by decide) (Or.inl (by decide))).trans (rfl))))))))); rw [e]; exact ⟨bl2, bl3⟩) (by have e : (w_up (w_up (w_up (w_up (w_up (w_up Sq14 158 16 0) 158 17 0) 158 16 vk) 158 17 vb) 158 16 ky) 158 17 vy) 228 (-1) = S 228 (-1) := ((w_up_slot (by decide)).trans ((w_up_slot (by decide)).trans ((w_up_slot (by decide)).trans ((w_up_slot (by decide)).trans ((w_up_slot (by decide)).trans ((w_up_slot (by decide)).trans (((tr14.2.2.2.1 228 (-1) (by decide) (by decide) (by decide) (Or.inl (by decide))).trans (rfl))))))))); omega) ⟨by omega, by omega⟩ ⟨by omega, by omega⟩ ⟨by omega, by omega⟩ ⟨by omega, by omega⟩) (fun oq38 Sq38 hp39 q38 => ?_)
                      rcases q38 with ⟨rfl, hgv38⟩
                      show wJ _ _ _ _ _ _ _ _ _ _
                      refine wa_return rfl ?_
                      refine ⟨rfl, Or.inr ⟨by omega, Sq14, (w_up (w_up (w_up (w_up (w_up (w_up Sq14 158 16 0) 158 17 0) 158 16 vk) 158 17 vb) 158 16 ky) 158 17 vy), tr14, ?_, ?_⟩⟩
                      · exact fun j i hji => (w_up_no (by omega)).trans ((w_up_no (by omega)).trans ((w_up_no (by omega)).trans ((w_up_no (by omega)).trans ((w_up_no (by omega)).trans ((w_up_no (by omega)).trans (rfl))))))
                      · first | (rw [if_pos (show kd = 1 by omega), if_pos (show kd = 1 by omega)]; exact hgv38) | (rw [if_neg (show ¬ kd = 1 by omega), if_neg (show ¬ kd = 1 by omega)]; exact hgv38)
                · skip
                  exact absurd c16 (by omega)
              · skip
                exact absurd c12 (by omega)
            · skip
              exact absurd c11 (by omega)
        · skip
          exact absurd c7 (by omega)
      · skip
        refine wa_aload_n (n := 2) rfl ?_
        refine wb_gf4 162 rfl (wy_pr rfl) wt_162 wf_3_3 (v := 185) wl_162_3 ?_
        refine wa_bipush (w_rg2 (by omega) (by omega)) ?_
        refine wb_aald5 185 15 rfl rfl (wy_pr rfl) wt_185 (by rw [show _ = _ from ((cl_185 hC))]; omega) wl_185_15 ?_
        refine wa_iload_n (n := 1) rfl ?_
        refine wb_iald 201 rfl (wy_pr rfl) wt_201 (n := 400) ((cl_201 hC)) (by omega) (by omega) (v := fl) (hmf) (fun r40 => ?_)
        refine wa_iconst ?_
        refine wa_icmpne (w_rg0 (by omega) (by omega)) (w_rg0 (by omega) (by omega)) ⟨_, rfl⟩ (fun c41 => ?_) (fun c41 => ?_)
        · skip
          refine wa_iconst ?_
          refine wa_fall ⟨_, rfl⟩ ?_
          refine wa_istore (n := 4) rfl ?_
          refine wa_iload_n (n := 3) rfl ?_
          refine wa_ifeq (w_rg0 (by omega) (by omega)) ⟨_, rfl⟩ (fun c42 => ?_) (fun c42 => ?_)
          · skip
            refine wa_iconst ?_
            refine wa_fall ⟨_, rfl⟩ ?_
            refine wa_istore (n := 5) rfl ?_
            refine wa_aload_n (n := 0) rfl ?_
            refine wb_gf4 158 rfl (wy_pr rfl) wt_158 wf_5_0 (v := 72) wl_158_0 ?_
            refine wb_gfi 72 rfl (wy_pr rfl) wt_72 wf_2_15 (v := tn) (ht15) (fun r43 => ?_)
            refine wa_iconst ?_
            refine wa_iadd ?_
            refine wb_ki (n := 100000) rfl ?_
            refine wa_icmpgt (w_rg0 (by omega) (by omega)) (w_rg0 (by omega) (by omega)) ⟨_, rfl⟩ (fun c44 => ?_) (fun c44 => ?_)
            · skip
              refine wa_aload_n (n := 0) rfl ?_
              refine wb_gf5 158 rfl (wy_pr rfl) wt_158 wf_5_4 (v := 226) (l4) (fun r45 => ?_)
              refine wa_bipush (w_rg2 (by omega) (by omega)) ?_
              refine wb_pfi 226 rfl (wy_pr rfl) wt_226 wf_8_16 (n := 16) rfl ⟨(by omega), (by omega)⟩ ?_
              refine wa_return rfl ?_
              exact ⟨rfl, Or.inl ⟨by omega, rfl⟩⟩
            · skip
              refine wa_iload_n (n := 3) rfl ?_
              refine wa_ifeq (w_rg0 (by omega) (by omega)) ⟨_, rfl⟩ (fun c46 => ?_) (fun c46 => ?_)
              · skip
                refine wa_iload (n := 4) rfl ?_
                refine wa_ifeq (w_rg0 (by omega) (by omega)) ⟨_, rfl⟩ (fun c47 => ?_) (fun c47 => ?_)
                · skip
                  refine wa_aload_n (n := 0) rfl ?_
                  refine wb_gf4 158 rfl (wy_pr rfl) wt_158 wf_5_0 (v := 72) wl_158_0 ?_
                  refine wa_iload_n (n := 1) rfl ?_
                  refine wa_aload_n (n := 0) rfl ?_
                  refine wb_gfi 158 rfl (wy_pr rfl) wt_158 wf_5_12 (v := en) (l12) (fun r48 => ?_)
                  refine wa_cv 72 rfl (wy_pr rfl) wt_72 (M2 := mS [152]) rfl at_XH_addTrace ⟨_, rfl⟩ rfl rfl ⟨trivial, trivial, trivial, (Or.inr ⟨wy_pr rfl, mS_no rfl⟩), (Or.inr ⟨wy_pr rfl, mS_no rfl⟩), trivial, trivial⟩ trivial (fun _ _ q => mS_sub (by decide) q) (tra (S := S) (m := m) (k := en) hI ⟨by omega, by omega⟩ ⟨by omega, by omega⟩ (by rw [ht15]; exact ht0) (by rw [ht15]; exact ht9)) (fun oq49 Sq49 hp50 q49 => ?_)
                  rcases q49 with ⟨rfl, tr49⟩
                  show wJ _ _ _ _ _ _ _ _ _ _
                  refine wa_aload_n (n := 0) rfl ?_
                  refine wa_iconst ?_
                  refine wb_pfi 158 rfl (wy_pr rfl) wt_158 wf_5_16 (n := 16) rfl ⟨(by omega), (by omega)⟩ ?_
                  refine wa_aload_n (n := 0) rfl ?_
                  refine wb_lconst (m := 0) rfl ?_
                  refine wb_pfl 158 rfl (wy_pr rfl) wt_158 wf_5_17 (n := 17) rfl ⟨(by omega), (by omega)⟩ ?_
                  refine wa_iload_n (n := 3) rfl ?_
                  refine wa_ifeq (w_rg0 (by omega) (by omega)) ⟨_, rfl⟩ (fun c51 => ?_) (fun c51 => ?_)
                  · skip
                    refine wa_aload_n (n := 2) rfl ?_
                    refine wb_gf4 162 rfl (wy_pr rfl) wt_162 wf_3_3 (v := 185) wl_162_3 ?_
                    refine wa_bipush (w_rg2 (by omega) (by omega)) ?_
                    refine wb_aald5 185 15 rfl rfl (wy_pr rfl) wt_185 (by rw [show _ = _ from ((w_up_slot (by decide)).trans ((w_up_slot (by decide)).trans (((tr49.2.2.2.1 185 (-1) (by decide) (by decide) (by decide) (Or.inl (by decide))).trans ((cl_185 hC))))))]; omega) wl_185_15 ?_
                    refine wa_iload_n (n := 1) rfl ?_
                    refine wb_iald 201 rfl (wy_pr rfl) wt_201 (n := 400) ((w_up_slot (by decide)).trans ((w_up_slot (by decide)).trans (((tr49.2.2.2.1 201 (-1) (by decide) (by decide) (by decide) (Or.inl (by decide))).trans ((cl_201 hC)))))) (by omega) (by omega) (v := fl) ((w_up_slot (by decide)).trans ((w_up_slot (by decide)).trans (((tr49.2.2.2.1 201 m (by decide) (by decide) (by decide) (Or.inl (by decide))).trans (hmf))))) (fun r52 => ?_)
                    refine wa_iconst ?_
                    refine wa_icmpeq (w_rg0 (by omega) (by omega)) (w_rg0 (by omega) (by omega)) ⟨_, rfl⟩ (fun c53 => ?_) (fun c53 => ?_)
                    · skip
                      exact absurd c53 (by omega)
                    · skip
                      refine wa_aload_n (n := 0) rfl ?_
                      refine wa_iload_n (n := 1) rfl ?_
                      refine wa_aload_n (n := 2) rfl ?_
                      refine wb_gf4 162 rfl (wy_pr rfl) wt_162 wf_3_3 (v := 185) wl_162_3 ?_
                      refine wa_bipush (w_rg2 (by omega) (by omega)) ?_
                      refine wb_aald5 185 15 rfl rfl (wy_pr rfl) wt_185 (by rw [show _ = _ from ((w_up_slot (by decide)).trans ((w_up_slot (by decide)).trans (((tr49.2.2.2.1 185 (-1) (by decide) (by decide) (by decide) (Or.inl (by decide))).trans ((cl_185 hC))))))]; omega) wl_185_15 ?_
                      refine wa_iload_n (n := 1) rfl ?_
                      refine wb_iald 201 rfl (wy_pr rfl) wt_201 (n := 400) ((w_up_slot (by decide)).trans ((w_up_slot (by decide)).trans (((tr49.2.2.2.1 201 (-1) (by decide) (by decide) (by decide) (Or.inl (by decide))).trans ((cl_201 hC)))))) (by omega) (by omega) (v := fl) ((w_up_slot (by decide)).trans ((w_up_slot (by decide)).trans (((tr49.2.2.2.1 201 m (by decide) (by decide) (by decide) (Or.inl (by decide))).trans (hmf))))) (fun r54 => ?_)
                      have hf2 : ∀ (j : Nat) (i : Int), j < 4000000 → j ≠ wG → j ≠ 152 → j ≠ 72 → j ≠ 158 → (w_up (w_up Sq49 158 16 0) 158 17 0) j i = S j i := fun j i a b c d e => (w_up_no (fun z => e z.1)).trans ((w_up_no (fun z => e z.1)).trans (tr49.2.2.2.1 j i a b c (Or.inl d)))
                      have el : (w_up (w_up Sq49 158 16 0) 158 17 0) 141 (-1) = S 141 (-1) := (hf2 141 _ (by first | decide | omega) (by first | decide | omega) (by first | decide | omega) (by first | decide | omega) (by first | decide | omega))
                      have el2 : (w_up (w_up Sq49 158 16 0) 158 17 0) 142 (-1) = S 142 (-1) := (hf2 142 _ (by first | decide | omega) (by first | decide | omega) (by first | decide | omega) (by first | decide | omega) (by first | decide | omega))
                      have el3 : (w_up (w_up Sq49 158 16 0) 158 17 0) 127 (-1) = S 127 (-1) := (hf2 127 _ (by first | decide | omega) (by first | decide | omega) (by first | decide | omega) (by first | decide | omega) (by first | decide | omega))
                      refine wa_cv 158 rfl (wy_pr rfl) wt_158 (M2 := fun _ => False) rfl at_XL_useField ⟨_, rfl⟩ rfl rfl ⟨trivial, trivial, trivial, (Or.inr ⟨wy_pr rfl, fun q => q⟩), (Or.inr ⟨wy_pr rfl, fun q => q⟩), trivial, trivial⟩ trivial (fun _ _ q => False.elim q) (usg0_162_226 (S := (w_up (w_up Sq49 158 16 0) 158 17 0)) (m := m) (f := fl) (w_CL_up (w_CL_up (CL_tr hC tr49) (by omega)) (by omega)) ((w_up_slot (by decide)).trans ((w_up_slot (by decide)).trans (((tr49.2.2.2.1 72 1 (by decide) (by decide) (by decide) (Or.inr (by decide))).trans (h72))))) ((w_up_at (by decide)).trans ((w_up_at (by decide)).trans (((tr49.2.2.2.1 158 5 (by decide) (by decide) (by decide) (Or.inl (by decide))).trans (l5))))) ((w_up_at (by decide)).trans ((w_up_at (by decide)).trans (((tr49.2.2.2.1 158 8 (by decide) (by decide) (by decide) (Or.inl (by decide))).trans (l8))))) (((w_up_at (by decide)).trans ((w_up_at (by decide)).trans ((tr49.2.2.2.1 158 10 (by decide) (by decide) (by decide) (Or.inl (by decide)))))).trans l10) hm hfl ((hf2 188 _ (by decide) (by decide) (by decide) (by decide) (by decide)).trans hstt) ((hf2 201 _ (by decide) (by decide) (by decide) (by decide) (by decide)).trans hfi) (fun x hx => by rw [hf2 (127 + x) (-1) (by omega) (by unfold wG; omega) (by omega) (by omega) (by omega), el3]; exact hth x hx) (by rw [el3]; exact hn2) (by rw [el, el2]; exact hl14) (by rw [el]; exact hz14) (by rw [el3]; exact hgb) ((hf2 133 _ (by decide) (by decide) (by decide) (by decide) (by decide)).trans hst) (by rw [el]; exact hrb) ((hf2 190 _ (by decide) (by decide) (by decide) (by decide) (by decide)).trans hmc) ((hf2 141 _ (by decide) (by decide) (by decide) (by decide) (by decide)).trans hvk) ((hf2 142 _ (by decide) (by decide) (by decide) (by decide) (by decide)).trans hvb)) (fun oq55 Sq55 hp56 q55 => ?_)
                      rcases q55 with ⟨rfl, rfl⟩
                      show wJ _ _ _ _ _ _ _ _ _ _
                      refine wa_goto ⟨_, rfl⟩ ?_
                      refine wa_aload_n (n := 0) rfl ?_
                      refine wb_gfi 158 rfl (wy_pr rfl) wt_158 wf_5_7 (v := kd) ((w_up_at (by decide)).trans ((w_up_at (by decide)).trans ((w_up_at (by decide)).trans ((w_up_at (by decide)).trans (((tr49.2.2.2.1 158 7 (by decide) (by decide) (by decide) (Or.inl (by decide))).trans (l7))))))) (fun r57 => ?_)
                      refine wa_iconst ?_
                      refine wa_icmpne (w_rg0 (by omega) (by omega)) (w_rg0 (by omega) (by omega)) ⟨_, rfl⟩ (fun c58 => ?_) (fun c58 => ?_)
                      · skip
                        refine wa_aload_n (n := 0) rfl ?_
                        refine wa_aload_n (n := 0) rfl ?_
                        refine wb_gfi 158 rfl (wy_pr rfl) wt_158 wf_5_16 (v := vk) ((w_up_at (by decide)).trans (w_up_same _ _ _ _)) (fun r59 => ?_)
                        refine wa_aload_n (n := 0) rfl ?_
                        refine wb_gfl 158 rfl (wy_pr rfl) wt_158 wf_5_17 (v := vb) (w_up_same _ _ _ _) (fun r60 => ?_)
                        refine wa_cv 158 rfl (wy_pr rfl) wt_158 (M2 := mS [228, 229]) rfl at_XL_giveValue ⟨_, rfl⟩ rfl rfl ⟨trivial, trivial, trivial, (Or.inr ⟨wy_pr rfl, mS_no rfl⟩), (Or.inr ⟨wy_pr rfl, mS_no rfl⟩), trivial, trivial⟩ trivial (fun _ _ q => mS_sub (by decide) q) (glx_226 (S := (w_up (w_up (w_up (w_up Sq49 158 16 0) 158 17 0) 158 16 vk) 158 17 vb)) (k := vk) (v := vb) (h := h) (c := c) (p := p) (ba := ba) (w_CL_up (w_CL_up (w_CL_up (w_CL_up (CL_tr hC tr49) (by omega)) (by omega)) (by omega)) (by omega)) (gI_up (gI_up (gI_up (gI_up tr49.2.2.2.2.2.1 (by omega) (by omega) (by omega)) (by omega) (by omega) (by omega)) (by omega) (by omega) (by omega)) (by omega) (by omega) (by omega)) ((w_up_at (by decide)).trans ((w_up_at (by decide)).trans ((w_up_at (by decide)).trans ((w_up_at (by decide)).trans (((tr49.2.2.2.1 158 4 (by decide) (by decide) (by decide) (Or.inl (by decide))).trans (l4))))))) ((w_up_at (by decide)).trans ((w_up_at (by decide)).trans ((w_up_at (by decide)).trans ((w_up_at (by decide)).trans (((tr49.2.2.2.1 158 5 (by decide) (by decide) (by decide) (Or.inl (by decide))).trans (l5))))))) ((w_up_at (by decide)).trans ((w_up_at (by decide)).trans ((w_up_at (by decide)).trans ((w_up_at (by decide)).trans (((tr49.2.2.2.1 158 8 (by decide) (by decide) (by decide) (Or.inl (by decide))).trans (l8))))))) ((w_up_slot (by decide)).trans ((w_up_slot (by decide)).trans ((w_up_slot (by decide)).trans ((w_up_slot (by decide)).trans (((tr49.2.2.2.1 226 4 (by decide) (by decide) (by decide) (Or.inl (by decide))).trans (bc))))))) ((w_up_slot (by decide)).trans ((w_up_slot (by decide)).trans ((w_up_slot (by decide)).trans ((w_up_slot (by decide)).trans (((tr49.2.2.2.1 231 (c - 1) (by decide) (by decide) (by decide) (Or.inl (by decide))).trans (bp))))))) ((((w_up_slot (by decide)).trans ((w_up_slot (by decide)).trans ((w_up_slot (by decide)).trans ((w_up_slot (by decide)).trans (((tr49.2.2.2.1 229 (-1) (by decide) (by decide) (by decide) (Or.inl (by decide))).trans (bl1)))))))).trans (((w_up_slot (by decide)).trans ((w_up_slot (by decide)).trans ((w_up_slot (by decide)).trans ((w_up_slot (by decide)).trans (((tr49.2.2.2.1 228 (-1) (by decide) (by decide) (by decide) (Or.inl (by decide))).trans (rfl)))))))).symm) (by have e : (w_up (w_up (w_up (w_up Sq49 158 16 0) 158 17 0) 158 16 vk) 158 17 vb) 228 (-1) = S 228 (-1) := ((w_up_slot (by decide)).trans ((w_up_slot (by decide)).trans ((w_up_slot (by decide)).trans ((w_up_slot (by decide)).trans (((tr49.2.2.2.1 228 (-1) (by decide) (by decide) (by decide) (Or.inl (by decide))).trans (rfl))))))); rw [e]; exact ⟨bl2, bl3⟩) (by have e : (w_up (w_up (w_up (w_up Sq49 158 16 0) 158 17 0) 158 16 vk) 158 17 vb) 228 (-1) = S 228 (-1) := ((w_up_slot (by decide)).trans ((w_up_slot (by decide)).trans ((w_up_slot (by decide)).trans ((w_up_slot (by decide)).trans (((tr49.2.2.2.1 228 (-1) (by decide) (by decide) (by decide) (Or.inl (by decide))).trans (rfl))))))); omega) ⟨by omega, by omega⟩ ⟨by omega, by omega⟩ ⟨by omega, by omega⟩ ⟨by omega, by omega⟩) (fun oq61 Sq61 hp62 q61 => ?_)
                        rcases q61 with ⟨rfl, hgv61⟩
                        show wJ _ _ _ _ _ _ _ _ _ _
                        refine wa_return rfl ?_
                        refine ⟨rfl, Or.inr ⟨by omega, Sq49, (w_up (w_up (w_up (w_up Sq49 158 16 0) 158 17 0) 158 16 vk) 158 17 vb), tr49, ?_, ?_⟩⟩
                        · exact fun j i hji => (w_up_no (by omega)).trans ((w_up_no (by omega)).trans ((w_up_no (by omega)).trans ((w_up_no (by omega)).trans (rfl))))
                        · first | (rw [if_pos (show kd = 1 by omega), if_pos (show kd = 1 by omega)]; exact hgv61) | (rw [if_neg (show ¬ kd = 1 by omega), if_neg (show ¬ kd = 1 by omega)]; exact hgv61)
                      · skip
                        refine wa_aload_n (n := 0) rfl ?_
                        refine wa_aload_n (n := 0) rfl ?_
                        refine wb_gf5 158 rfl (wy_pr rfl) wt_158 wf_5_5 (v := 227) ((w_up_at (by decide)).trans ((w_up_at (by decide)).trans ((w_up_at (by decide)).trans ((w_up_at (by decide)).trans (((tr49.2.2.2.1 158 5 (by decide) (by decide) (by decide) (Or.inl (by decide))).trans (l5))))))) (fun r63 => ?_)
                        refine wb_gf4 227 rfl (wy_pr rfl) wt_227 wf_7_0 (v := 228) wl_227_0 ?_
                        refine wa_aload_n (n := 0) rfl ?_
                        refine wb_gf5 158 rfl (wy_pr rfl) wt_158 wf_5_5 (v := 227) ((w_up_at (by decide)).trans ((w_up_at (by decide)).trans ((w_up_at (by decide)).trans ((w_up_at (by decide)).trans (((tr49.2.2.2.1 158 5 (by decide) (by decide) (by decide) (Or.inl (by decide))).trans (l5))))))) (fun r64 => ?_)
                        refine wb_gfi 227 rfl (wy_pr rfl) wt_227 wf_7_2 (v := h) ((w_up_slot (by decide)).trans ((w_up_slot (by decide)).trans ((w_up_slot (by decide)).trans ((w_up_slot (by decide)).trans (((tr49.2.2.2.1 227 2 (by decide) (by decide) (by decide) (Or.inl (by decide))).trans (bh))))))) (fun r65 => ?_)
                        refine wa_iconst ?_
                        refine wa_isub ?_
                        refine wb_bald 228 rfl (wy_pr rfl) wt_228 (n := (S 228 (-1))) ((w_up_slot (by decide)).trans ((w_up_slot (by decide)).trans ((w_up_slot (by decide)).trans ((w_up_slot (by decide)).trans (((tr49.2.2.2.1 228 (-1) (by decide) (by decide) (by decide) (Or.inl (by decide))).trans (rfl))))))) (by omega) (by omega) (v := ky) ((w_up_slot (by decide)).trans ((w_up_slot (by decide)).trans ((w_up_slot (by decide)).trans ((w_up_slot (by decide)).trans (((tr49.2.2.2.1 228 (h - 1) (by decide) (by decide) (by decide) (Or.inl (by decide))).trans (hky))))))) (fun r66 => ?_)
                        refine wb_pfi 158 rfl (wy_pr rfl) wt_158 wf_5_16 (n := 16) rfl ⟨(by omega), (by omega)⟩ ?_
                        refine wa_aload_n (n := 0) rfl ?_
                        refine wa_aload_n (n := 0) rfl ?_
                        refine wb_gf5 158 rfl (wy_pr rfl) wt_158 wf_5_5 (v := 227) ((w_up_at (by decide)).trans ((w_up_at (by decide)).trans ((w_up_at (by decide)).trans ((w_up_at (by decide)).trans ((w_up_at (by decide)).trans (((tr49.2.2.2.1 158 5 (by decide) (by decide) (by decide) (Or.inl (by decide))).trans (l5)))))))) (fun r67 => ?_)
                        refine wb_gf4 227 rfl (wy_pr rfl) wt_227 wf_7_1 (v := 229) wl_227_1 ?_
                        refine wa_aload_n (n := 0) rfl ?_
                        refine wb_gf5 158 rfl (wy_pr rfl) wt_158 wf_5_5 (v := 227) ((w_up_at (by decide)).trans ((w_up_at (by decide)).trans ((w_up_at (by decide)).trans ((w_up_at (by decide)).trans ((w_up_at (by decide)).trans (((tr49.2.2.2.1 158 5 (by decide) (by decide) (by decide) (Or.inl (by decide))).trans (l5)))))))) (fun r68 => ?_)
                        refine wb_gfi 227 rfl (wy_pr rfl) wt_227 wf_7_2 (v := h) ((w_up_slot (by decide)).trans ((w_up_slot (by decide)).trans ((w_up_slot (by decide)).trans ((w_up_slot (by decide)).trans ((w_up_slot (by decide)).trans (((tr49.2.2.2.1 227 2 (by decide) (by decide) (by decide) (Or.inl (by decide))).trans (bh)))))))) (fun r69 => ?_)
                        refine wa_iconst ?_
                        refine wa_isub ?_
                        refine wb_lald 229 rfl (wy_pr rfl) wt_229 (n := (S 228 (-1))) ((w_up_slot (by decide)).trans ((w_up_slot (by decide)).trans ((w_up_slot (by decide)).trans ((w_up_slot (by decide)).trans ((w_up_slot (by decide)).trans (((tr49.2.2.2.1 229 (-1) (by decide) (by decide) (by decide) (Or.inl (by decide))).trans (bl1)))))))) (by omega) (by omega) (v := vy) ((w_up_slot (by decide)).trans ((w_up_slot (by decide)).trans ((w_up_slot (by decide)).trans ((w_up_slot (by decide)).trans ((w_up_slot (by decide)).trans (((tr49.2.2.2.1 229 (h - 1) (by decide) (by decide) (by decide) (Or.inl (by decide))).trans (hvy)))))))) (fun r70 => ?_)
                        refine wb_pfl 158 rfl (wy_pr rfl) wt_158 wf_5_17 (n := 17) rfl ⟨(by omega), (by omega)⟩ ?_
                        refine wa_fall ⟨_, rfl⟩ ?_
                        refine wa_aload_n (n := 0) rfl ?_
                        refine wa_aload_n (n := 0) rfl ?_
                        refine wb_gfi 158 rfl (wy_pr rfl) wt_158 wf_5_16 (v := ky) ((w_up_at (by decide)).trans (w_up_same _ _ _ _)) (fun r71 => ?_)
                        refine wa_aload_n (n := 0) rfl ?_
                        refine wb_gfl 158 rfl (wy_pr rfl) wt_158 wf_5_17 (v := vy) (w_up_same _ _ _ _) (fun r72 => ?_)
                        refine wa_cv 158 rfl (wy_pr rfl) wt_158 (M2 := mS [228, 229]) rfl at_XL_giveValue ⟨_, rfl⟩ rfl rfl ⟨trivial, trivial, trivial, (Or.inr ⟨wy_pr rfl, mS_no rfl⟩), (Or.inr ⟨wy_pr rfl, mS_no rfl⟩), trivial, trivial⟩ trivial (fun _ _ q => mS_sub (by decide) q) (glx_226 (S := (w_up (w_up (w_up (w_up (w_up (w_up Sq49 158 16 0) 158 17 0) 158 16 vk) 158 17 vb) 158 16 ky) 158 17 vy)) (k := ky) (v := vy) (h := h) (c := c) (p := p) (ba := ba) (w_CL_up (w_CL_up (w_CL_up (w_CL_up (w_CL_up (w_CL_up (CL_tr hC tr49) (by omega)) (by omega)) (by omega)) (by omega)) (by omega)) (by omega)) (gI_up (gI_up (gI_up (gI_up (gI_up (gI_up tr49.2.2.2.2.2.1 (by omega) (by omega) (by omega)) (by omega) (by omega) (by omega)) (by omega) (by omega) (by omega)) (by omega) (by omega) (by omega)) (by omega) (by omega) (by omega)) (by omega) (by omega) (by omega)) ((w_up_at (by decide)).trans ((w_up_at (by decide)).trans ((w_up_at (by decide)).trans ((w_up_at (by decide)).trans ((w_up_at (by decide)).trans ((w_up_at (by decide)).trans (((tr49.2.2.2.1 158 4 (by decide) (by decide) (by decide) (Or.inl (by decide))).trans (l4))))))))) ((w_up_at (by decide)).trans ((w_up_at (by decide)).trans ((w_up_at (by decide)).trans ((w_up_at (by decide)).trans ((w_up_at (by decide)).trans ((w_up_at (by decide)).trans (((tr49.2.2.2.1 158 5 (by decide) (by decide) (by decide) (Or.inl (by decide))).trans (l5))))))))) ((w_up_at (by decide)).trans ((w_up_at (by decide)).trans ((w_up_at (by decide)).trans ((w_up_at (by decide)).trans ((w_up_at (by decide)).trans ((w_up_at (by decide)).trans (((tr49.2.2.2.1 158 8 (by decide) (by decide) (by decide) (Or.inl (by decide))).trans (l8))))))))) ((w_up_slot (by decide)).trans ((w_up_slot (by decide)).trans ((w_up_slot (by decide)).trans ((w_up_slot (by decide)).trans ((w_up_slot (by decide)).trans ((w_up_slot (by decide)).trans (((tr49.2.2.2.1 226 4 (by decide) (by decide) (by decide) (Or.inl (by decide))).trans (bc))))))))) ((w_up_slot (by decide)).trans ((w_up_slot (by decide)).trans ((w_up_slot (by decide)).trans ((w_up_slot (by decide)).trans ((w_up_slot (by decide)).trans ((w_up_slot (by decide)).trans (((tr49.2.2.2.1 231 (c - 1) (by decide) (by decide) (by decide) (Or.inl (by decide))).trans (bp))))))))) ((((w_up_slot (by decide)).trans ((w_up_slot (by decide)).trans ((w_up_slot (by decide)).trans ((w_up_slot (by decide)).trans ((w_up_slot (by decide)).trans ((w_up_slot (by decide)).trans (((tr49.2.2.2.1 229 (-1) (by decide) (by decide) (by decide) (Or.inl (by decide))).trans (bl1)))))))))).trans (((w_up_slot (by decide)).trans ((w_up_slot (by decide)).trans ((w_up_slot (by decide)).trans ((w_up_slot (by decide)).trans ((w_up_slot (by decide)).trans ((w_up_slot (by decide)).trans (((tr49.2.2.2.1 228 (-1) (by decide) (by decide) (by decide) (Or.inl (by decide))).trans (rfl)))))))))).symm) (by have e : (w_up (w_up (w_up (w_up (w_up (w_up Sq49 158 16 0) 158 17 0) 158 16 vk) 158 17 vb) 158 16 ky) 158 17 vy) 228 (-1) = S 228 (-1) := ((w_up_slot (by decide)).trans ((w_up_slot (by decide)).trans ((w_up_slot (by decide)).trans ((w_up_slot (by decide)).trans ((w_up_slot (by decide)).trans ((w_up_slot (by decide)).trans (((tr49.2.2.2.1 228 (-1) (by decide) (by decide) (by decide) (Or.inl (by decide))).trans (rfl))))))))); rw [e]; exact ⟨bl2, bl3⟩) (by have e : (w_up (w_up (w_up (w_up (w_up (w_up Sq49 158 16 0) 158 17 0) 158 16 vk) 158 17 vb) 158 16 ky) 158 17 vy) 228 (-1) = S 228 (-1) := ((w_up_slot (by decide)).trans ((w_up_slot (by decide)).trans ((w_up_slot (by decide)).trans ((w_up_slot (by decide)).trans ((w_up_slot (by decide)).trans ((w_up_slot (by decide)).trans (((tr49.2.2.2.1 228 (-1) (by decide) (by decide) (by decide) (Or.inl (by decide))).trans (rfl))))))))); omega) ⟨by omega, by omega⟩ ⟨by omega, by omega⟩ ⟨by omega, by omega⟩ ⟨by omega, by omega⟩) (fun oq73 Sq73 hp74 q73 => ?_)
                        rcases q73 with ⟨rfl, hgv73⟩
                        show wJ _ _ _ _ _ _ _ _ _ _
                        refine wa_return rfl ?_
                        refine ⟨rfl, Or.inr ⟨by omega, Sq49, (w_up (w_up (w_up (w_up (w_up (w_up Sq49 158 16 0) 158 17 0) 158 16 vk) 158 17 vb) 158 16 ky) 158 17 vy), tr49, ?_, ?_⟩⟩
                        · exact fun j i hji => (w_up_no (by omega)).trans ((w_up_no (by omega)).trans ((w_up_no (by omega)).trans ((w_up_no (by omega)).trans ((w_up_no (by omega)).trans ((w_up_no (by omega)).trans (rfl))))))
                        · first | (rw [if_pos (show kd = 1 by omega), if_pos (show kd = 1 by omega)]; exact hgv73) | (rw [if_neg (show ¬ kd = 1 by omega), if_neg (show ¬ kd = 1 by omega)]; exact hgv73)
                  · skip
                    exact absurd c51 (by omega)
                · skip
                  exact absurd c47 (by omega)
              · skip
                exact absurd c46 (by omega)
          · skip
            exact absurd c42 (by omega)
        · skip
          exact absurd c41 (by omega)
  · skip
    exact absurd c3 (by omega)
set_option maxHeartbeats 4000000 in
theorem cms0_162_226 {c p h kd ba m en tn ky vy fl fi gb ty st k1 v1 : Int} (hP : xP 226 c p h S) (l4 : S 158 4 = 226) (l5 : S 158 5 = 227) (l7 : S 158 7 = kd) (l8 : S 158 8 = ba) (l12 : S 158 12 = en) (hen : 0 ≤ en ∧ en ≤ 1000) (hba : 0 ≤ ba ∧ ba < h) (h72 : S 72 1 = 162) (hm : 0 ≤ m ∧ m < 400) (hso : S 187 m = 1) (ht15 : S 72 15 = tn) (ht0 : 0 ≤ tn ∧ tn ≤ S 152 (-1) ∧ tn ≤ 100000) (ht9 : 16 ≤ S 152 (-1) ∧ S 152 (-1) ≤ 131072 ∨ (16 ≤ S 152 (-1) ∧ S 152 (-1) ≤ 262143 ∧ tn + 2 ≤ S 152 (-1))) (hky : S 228 (h - 1) = ky) (hvy : S 229 (h - 1) = vy) (hkr : -128 ≤ ky ∧ ky ≤ 127) (hvr : -9223372036854775808 ≤ vy ∧ vy ≤ 9223372036854775807) (hmf : S 201 m = fl) (hfl : 0 ≤ fl ∧ fl < 400) (hstt : S 188 fl = 0) (hfi : S 201 fl = fi) (l10 : S 158 10 = gb) (hmt : S 189 m = ty) (hmc : S 190 m = 1) (hth : ∀ x : Nat, x < 10 → S (127 + x) (-1) = S 127 (-1)) (hn2 : S 127 (-1) ≤ 16383) (hl14 : S 142 (-1) = S 141 (-1)) (hz14 : 16 ≤ S 141 (-1) ∧ S 141 (-1) ≤ 480400) (hgb : 0 ≤ gb ∧ gb < S 127 (-1)) (hst : S 133 gb = st) (hrb : 0 ≤ st ∧ 0 ≤ fi ∧ fi ≤ 1000 ∧ st + fi < S 141 (-1)) (hb1 : ba + 1 < h) (hk1 : S 228 (ba + 1) = k1) (hv1 : S 229 (ba + 1) = v1) : wJ (pe_GA xs) wY0 (mS [228, 229, 152]) (d + 6) t_XL_callMember ((pe_at t_XL_callMember.bl 0).getD (0, [])).2 [(0, (2, 158)), (1, (0, m))] [] S (fun o Z => o = .inl none ∧ ((100000 < tn + 2 ∧ w_up S 226 16 99 = Z) ∨ (¬ (100000 < tn + 2) ∧ cmE 226 h c p (h - ba) kd ky vy 0 0 m en (fun A B => gvR (w_up (w_up A 141 (st + fi) k1) 142 (st + fi) v1) B) S Z))) := by
  obtain ⟨⟨hC, hI⟩, ⟨bc, bc0, bc1⟩, ⟨bp, bp0, bp1⟩, ⟨bh, bh0, bh1, bh2⟩, bl1, bl2, bl3⟩ := hP
  replace bp : S 231 (c - 1) = p := bp
  replace bh : S 227 2 = h := bh
  replace bh2 : h ≤ S 228 (-1) := bh2
  replace bl1 : S 229 (-1) = S 228 (-1) := bl1
  replace bl2 : 64 ≤ S 228 (-1) := bl2
  replace bl3 : S 228 (-1) ≤ 4095 := bl3
  refine wa_aload_n (n := 0) rfl ?_
  refine wb_gf4 158 rfl (wy_pr rfl) wt_158 wf_5_0 (v := 72) wl_158_0 ?_
  refine wb_gf5 72 rfl (wy_pr rfl) wt_72 wf_2_1 (v := 162) (h72) (fun r1 => ?_)
  refine wa_astore_n (n := 2) rfl ?_
  refine wa_aload_n (n := 2) rfl ?_
  refine wb_gf4 162 rfl (wy_pr rfl) wt_162 wf_3_3 (v := 185) wl_162_3 ?_
  refine wa_iconst ?_
  refine wb_aald5 185 1 rfl rfl (wy_pr rfl) wt_185 (by rw [show _ = _ from ((cl_185 hC))]; omega) wl_185_1 ?_
  refine wa_iload_n (n := 1) rfl ?_
  refine wb_iald 187 rfl (wy_pr rfl) wt_187 (n := 400) ((cl_187 hC)) (by omega) (by omega) (v := 1) (hso) (fun r2 => ?_)
  refine wa_iconst ?_
  refine wa_icmpne (w_rg0 (by omega) (by omega)) (w_rg0 (by omega) (by omega)) ⟨_, rfl⟩ (fun c3 => ?_) (fun c3 => ?_)
  · skip
    refine wa_iconst ?_
    refine wa_fall ⟨_, rfl⟩ ?_
    refine wa_istore_n (n := 3) rfl ?_
    refine wa_iload_n (n := 3) rfl ?_
    refine wa_ifne (w_rg0 (by omega) (by omega)) ⟨_, rfl⟩ (fun c4 => ?_) (fun c4 => ?_)
    · skip
      exact absurd c4 (by omega)
    · skip
      refine wa_aload_n (n := 2) rfl ?_
      refine wb_gf4 162 rfl (wy_pr rfl) wt_162 wf_3_3 (v := 185) wl_162_3 ?_
      refine wa_iconst ?_
      refine wb_aald5 185 3 rfl rfl (wy_pr rfl) wt_185 (by rw [show _ = _ from ((cl_185 hC))]; omega) wl_185_3 ?_
      refine wa_iload_n (n := 1) rfl ?_
      refine wb_iald 189 rfl (wy_pr rfl) wt_189 (n := 400) ((cl_189 hC)) (by omega) (by omega) (v := ty) (hmt) (fun r5 => ?_)
      refine wa_bipush (w_rg2 (by omega) (by omega)) ?_
      refine wa_icmpne (w_rg0 (by omega) (by omega)) (w_rg0 (by omega) (by omega)) ⟨_, rfl⟩ (fun c6 => ?_) (fun c6 => ?_)
      · skip
        refine wa_iconst ?_
        refine wa_fall ⟨_, rfl⟩ ?_
        refine wa_istore (n := 4) rfl ?_
        refine wa_iload_n (n := 3) rfl ?_
        refine wa_ifeq (w_rg0 (by omega) (by omega)) ⟨_, rfl⟩ (fun c7 => ?_) (fun c7 => ?_)
        · skip
          refine wa_iconst ?_
          refine wa_fall ⟨_, rfl⟩ ?_
          refine wa_istore (n := 5) rfl ?_
          refine wa_aload_n (n := 0) rfl ?_
          refine wb_gf4 158 rfl (wy_pr rfl) wt_158 wf_5_0 (v := 72) wl_158_0 ?_
          refine wb_gfi 72 rfl (wy_pr rfl) wt_72 wf_2_15 (v := tn) (ht15) (fun r8 => ?_)
          refine wa_iconst ?_
          refine wa_iadd ?_
          refine wb_ki (n := 100000) rfl ?_
          refine wa_icmpgt (w_rg0 (by omega) (by omega)) (w_rg0 (by omega) (by omega)) ⟨_, rfl⟩ (fun c9 => ?_) (fun c9 => ?_)
          · skip
            refine wa_aload_n (n := 0) rfl ?_
            refine wb_gf5 158 rfl (wy_pr rfl) wt_158 wf_5_4 (v := 226) (l4) (fun r10 => ?_)
            refine wa_bipush (w_rg2 (by omega) (by omega)) ?_
            refine wb_pfi 226 rfl (wy_pr rfl) wt_226 wf_8_16 (n := 16) rfl ⟨(by omega), (by omega)⟩ ?_
            refine wa_return rfl ?_
            exact ⟨rfl, Or.inl ⟨by omega, rfl⟩⟩
          · skip
            refine wa_iload_n (n := 3) rfl ?_
            refine wa_ifeq (w_rg0 (by omega) (by omega)) ⟨_, rfl⟩ (fun c11 => ?_) (fun c11 => ?_)
            · skip
              refine wa_iload (n := 4) rfl ?_
              refine wa_ifeq (w_rg0 (by omega) (by omega)) ⟨_, rfl⟩ (fun c12 => ?_) (fun c12 => ?_)
              · skip
                refine wa_aload_n (n := 0) rfl ?_
                refine wb_gf4 158 rfl (wy_pr rfl) wt_158 wf_5_0 (v := 72) wl_158_0 ?_
                refine wa_iload_n (n := 1) rfl ?_
                refine wa_aload_n (n := 0) rfl ?_
                refine wb_gfi 158 rfl (wy_pr rfl) wt_158 wf_5_12 (v := en) (l12) (fun r13 => ?_)
                refine wa_cv 72 rfl (wy_pr rfl) wt_72 (M2 := mS [152]) rfl at_XH_addTrace ⟨_, rfl⟩ rfl rfl ⟨trivial, trivial, trivial, (Or.inr ⟨wy_pr rfl, mS_no rfl⟩), (Or.inr ⟨wy_pr rfl, mS_no rfl⟩), trivial, trivial⟩ trivial (fun _ _ q => mS_sub (by decide) q) (tra (S := S) (m := m) (k := en) hI ⟨by omega, by omega⟩ ⟨by omega, by omega⟩ (by rw [ht15]; exact ht0) (by rw [ht15]; exact ht9)) (fun oq14 Sq14 hp15 q14 => ?_)
                rcases q14 with ⟨rfl, tr14⟩
                show wJ _ _ _ _ _ _ _ _ _ _
                refine wa_aload_n (n := 0) rfl ?_
                refine wa_iconst ?_
                refine wb_pfi 158 rfl (wy_pr rfl) wt_158 wf_5_16 (n := 16) rfl ⟨(by omega), (by omega)⟩ ?_
                refine wa_aload_n (n := 0) rfl ?_
                refine wb_lconst (m := 0) rfl ?_
                refine wb_pfl 158 rfl (wy_pr rfl) wt_158 wf_5_17 (n := 17) rfl ⟨(by omega), (by omega)⟩ ?_
                refine wa_iload_n (n := 3) rfl ?_
                refine wa_ifeq (w_rg0 (by omega) (by omega)) ⟨_, rfl⟩ (fun c16 => ?_) (fun c16 => ?_)
                · skip
                  refine wa_aload_n (n := 2) rfl ?_
                  refine wb_gf4 162 rfl (wy_pr rfl) wt_162 wf_3_3 (v := 185) wl_162_3 ?_
                  refine wa_bipush (w_rg2 (by omega) (by omega)) ?_
                  refine wb_aald5 185 15 rfl rfl (wy_pr rfl) wt_185 (by rw [show _ = _ from ((w_up_slot (by decide)).trans ((w_up_slot (by decide)).trans (((tr14.2.2.2.1 185 (-1) (by decide) (by decide) (by decide) (Or.inl (by decide))).trans ((cl_185 hC))))))]; omega) wl_185_15 ?_
                  refine wa_iload_n (n := 1) rfl ?_
                  refine wb_iald 201 rfl (wy_pr rfl) wt_201 (n := 400) ((w_up_slot (by decide)).trans ((w_up_slot (by decide)).trans (((tr14.2.2.2.1 201 (-1) (by decide) (by decide) (by decide) (Or.inl (by decide))).trans ((cl_201 hC)))))) (by omega) (by omega) (v := fl) ((w_up_slot (by decide)).trans ((w_up_slot (by decide)).trans (((tr14.2.2.2.1 201 m (by decide) (by decide) (by decide) (Or.inl (by decide))).trans (hmf))))) (fun r17 => ?_)
                  refine wa_iconst ?_
                  refine wa_icmpeq (w_rg0 (by omega) (by omega)) (w_rg0 (by omega) (by omega)) ⟨_, rfl⟩ (fun c18 => ?_) (fun c18 => ?_)
                  · skip
                    exact absurd c18 (by omega)
                  · skip
                    refine wa_aload_n (n := 0) rfl ?_
                    refine wa_iload_n (n := 1) rfl ?_
                    refine wa_aload_n (n := 2) rfl ?_
                    refine wb_gf4 162 rfl (wy_pr rfl) wt_162 wf_3_3 (v := 185) wl_162_3 ?_
                    refine wa_bipush (w_rg2 (by omega) (by omega)) ?_
                    refine wb_aald5 185 15 rfl rfl (wy_pr rfl) wt_185 (by rw [show _ = _ from ((w_up_slot (by decide)).trans ((w_up_slot (by decide)).trans (((tr14.2.2.2.1 185 (-1) (by decide) (by decide) (by decide) (Or.inl (by decide))).trans ((cl_185 hC))))))]; omega) wl_185_15 ?_
                    refine wa_iload_n (n := 1) rfl ?_
                    refine wb_iald 201 rfl (wy_pr rfl) wt_201 (n := 400) ((w_up_slot (by decide)).trans ((w_up_slot (by decide)).trans (((tr14.2.2.2.1 201 (-1) (by decide) (by decide) (by decide) (Or.inl (by decide))).trans ((cl_201 hC)))))) (by omega) (by omega) (v := fl) ((w_up_slot (by decide)).trans ((w_up_slot (by decide)).trans (((tr14.2.2.2.1 201 m (by decide) (by decide) (by decide) (Or.inl (by decide))).trans (hmf))))) (fun r19 => ?_)
                    have hf2 : ∀ (j : Nat) (i : Int), j < 4000000 → j ≠ wG → j ≠ 152 → j ≠ 72 → j ≠ 158 → (w_up (w_up Sq14 158 16 0) 158 17 0) j i = S j i := fun j i a b c d e => (w_up_no (fun z => e z.1)).trans ((w_up_no (fun z => e z.1)).trans (tr14.2.2.2.1 j i a b c (Or.inl d)))
                    have el : (w_up (w_up Sq14 158 16 0) 158 17 0) 141 (-1) = S 141 (-1) := (hf2 141 _ (by first | decide | omega) (by first | decide | omega) (by first | decide | omega) (by first | decide | omega) (by first | decide | omega))
                    have el2 : (w_up (w_up Sq14 158 16 0) 158 17 0) 142 (-1) = S 142 (-1) := (hf2 142 _ (by first | decide | omega) (by first | decide | omega) (by first | decide | omega) (by first | decide | omega) (by first | decide | omega))
                    have el3 : (w_up (w_up Sq14 158 16 0) 158 17 0) 127 (-1) = S 127 (-1) := (hf2 127 _ (by first | decide | omega) (by first | decide | omega) (by first | decide | omega) (by first | decide | omega) (by first | decide | omega))
                    have el8 : (w_up (w_up Sq14 158 16 0) 158 17 0) 228 (-1) = S 228 (-1) := (hf2 228 _ (by first | decide | omega) (by first | decide | omega) (by first | decide | omega) (by first | decide | omega) (by first | decide | omega))
                    have el9 : (w_up (w_up Sq14 158 16 0) 158 17 0) 229 (-1) = S 229 (-1) := (hf2 229 _ (by first | decide | omega) (by first | decide | omega) (by first | decide | omega) (by first | decide | omega) (by first | decide | omega))
                    refine wa_cv 158 rfl (wy_pr rfl) wt_158 (M2 := fun _ => False) rfl at_XL_useField ⟨_, rfl⟩ rfl rfl ⟨trivial, trivial, trivial, (Or.inr ⟨wy_pr rfl, fun q => q⟩), (Or.inr ⟨wy_pr rfl, fun q => q⟩), trivial, trivial⟩ trivial (fun _ _ q => False.elim q) (uss0_162_226 (S := (w_up (w_up Sq14 158 16 0) 158 17 0)) (m := m) (f := fl) (w_CL_up (w_CL_up (CL_tr hC tr14) (by omega)) (by omega)) ((w_up_slot (by decide)).trans ((w_up_slot (by decide)).trans (((tr14.2.2.2.1 72 1 (by decide) (by decide) (by decide) (Or.inr (by decide))).trans (h72))))) ((w_up_at (by decide)).trans ((w_up_at (by decide)).trans (((tr14.2.2.2.1 158 5 (by decide) (by decide) (by decide) (Or.inl (by decide))).trans (l5))))) ((w_up_at (by decide)).trans ((w_up_at (by decide)).trans (((tr14.2.2.2.1 158 8 (by decide) (by decide) (by decide) (Or.inl (by decide))).trans (l8))))) (((w_up_at (by decide)).trans ((w_up_at (by decide)).trans ((tr14.2.2.2.1 158 10 (by decide) (by decide) (by decide) (Or.inl (by decide)))))).trans l10) hm hfl ((hf2 188 _ (by decide) (by decide) (by decide) (by decide) (by decide)).trans hstt) ((hf2 201 _ (by decide) (by decide) (by decide) (by decide) (by decide)).trans hfi) (fun x hx => by rw [hf2 (127 + x) (-1) (by omega) (by unfold wG; omega) (by omega) (by omega) (by omega), el3]; exact hth x hx) (by rw [el3]; exact hn2) (by rw [el, el2]; exact hl14) (by rw [el]; exact hz14) (by rw [el3]; exact hgb) ((hf2 133 _ (by decide) (by decide) (by decide) (by decide) (by decide)).trans hst) (by rw [el]; exact hrb) ((hf2 190 _ (by decide) (by decide) (by decide) (by decide) (by decide)).trans hmc) (by rw [el8, el9]; exact bl1) (by rw [el8]; exact ⟨by omega, by omega, bl3⟩) ((hf2 228 _ (by decide) (by decide) (by decide) (by decide) (by decide)).trans hk1) ((hf2 229 _ (by decide) (by decide) (by decide) (by decide) (by decide)).trans hv1)) (fun oq20 Sq20 hp21 q20 => ?_)
                    rcases q20 with ⟨rfl, rfl⟩
                    show wJ _ _ _ _ _ _ _ _ _ _
                    refine wa_goto ⟨_, rfl⟩ ?_
                    refine wa_aload_n (n := 0) rfl ?_
                    refine wb_gfi 158 rfl (wy_pr rfl) wt_158 wf_5_7 (v := kd) ((w_up_slot (by decide)).trans ((w_up_slot (by decide)).trans ((w_up_at (by decide)).trans ((w_up_at (by decide)).trans (((tr14.2.2.2.1 158 7 (by decide) (by decide) (by decide) (Or.inl (by decide))).trans (l7))))))) (fun r22 => ?_)
                    refine wa_iconst ?_
                    refine wa_icmpne (w_rg0 (by omega) (by omega)) (w_rg0 (by omega) (by omega)) ⟨_, rfl⟩ (fun c23 => ?_) (fun c23 => ?_)
                    · skip
                      refine wa_aload_n (n := 0) rfl ?_
                      refine wa_aload_n (n := 0) rfl ?_
                      refine wb_gfi 158 rfl (wy_pr rfl) wt_158 wf_5_16 (v := 0) ((w_up_slot (by decide)).trans ((w_up_slot (by decide)).trans ((w_up_at (by decide)).trans (w_up_same _ _ _ _)))) (fun r24 => ?_)
                      refine wa_aload_n (n := 0) rfl ?_
                      refine wb_gfl 158 rfl (wy_pr rfl) wt_158 wf_5_17 (v := 0) ((w_up_slot (by decide)).trans ((w_up_slot (by decide)).trans (w_up_same _ _ _ _))) (fun r25 => ?_)
                      refine wa_cv 158 rfl (wy_pr rfl) wt_158 (M2 := mS [228, 229]) rfl at_XL_giveValue ⟨_, rfl⟩ rfl rfl ⟨trivial, trivial, trivial, (Or.inr ⟨wy_pr rfl, mS_no rfl⟩), (Or.inr ⟨wy_pr rfl, mS_no rfl⟩), trivial, trivial⟩ trivial (fun _ _ q => mS_sub (by decide) q) (glx_226 (S := (w_up (w_up (w_up (w_up Sq14 158 16 0) 158 17 0) 141 (st + fi) k1) 142 (st + fi) v1)) (k := 0) (v := 0) (h := h) (c := c) (p := p) (ba := ba) (w_CL_up (w_CL_up (w_CL_up (w_CL_up (CL_tr hC tr14) (by omega)) (by omega)) (by omega)) (by omega)) (gI_up (gI_up (gI_up (gI_up tr14.2.2.2.2.2.1 (by omega) (by omega) (by omega)) (by omega) (by omega) (by omega)) (by omega) (by omega) (by omega)) (by omega) (by omega) (by omega)) ((w_up_slot (by decide)).trans ((w_up_slot (by decide)).trans ((w_up_at (by decide)).trans ((w_up_at (by decide)).trans (((tr14.2.2.2.1 158 4 (by decide) (by decide) (by decide) (Or.inl (by decide))).trans (l4))))))) ((w_up_slot (by decide)).trans ((w_up_slot (by decide)).trans ((w_up_at (by decide)).trans ((w_up_at (by decide)).trans (((tr14.2.2.2.1 158 5 (by decide) (by decide) (by decide) (Or.inl (by decide))).trans (l5))))))) ((w_up_slot (by decide)).trans ((w_up_slot (by decide)).trans ((w_up_at (by decide)).trans ((w_up_at (by decide)).trans (((tr14.2.2.2.1 158 8 (by decide) (by decide) (by decide) (Or.inl (by decide))).trans (l8))))))) ((w_up_slot (by decide)).trans ((w_up_slot (by decide)).trans ((w_up_slot (by decide)).trans ((w_up_slot (by decide)).trans (((tr14.2.2.2.1 226 4 (by decide) (by decide) (by decide) (Or.inl (by decide))).trans (bc))))))) ((w_up_slot (by decide)).trans ((w_up_slot (by decide)).trans ((w_up_slot (by decide)).trans ((w_up_slot (by decide)).trans (((tr14.2.2.2.1 231 (c - 1) (by decide) (by decide) (by decide) (Or.inl (by decide))).trans (bp))))))) ((((w_up_slot (by decide)).trans ((w_up_slot (by decide)).trans ((w_up_slot (by decide)).trans ((w_up_slot (by decide)).trans (((tr14.2.2.2.1 229 (-1) (by decide) (by decide) (by decide) (Or.inl (by decide))).trans (bl1)))))))).trans (((w_up_slot (by decide)).trans ((w_up_slot (by decide)).trans ((w_up_slot (by decide)).trans ((w_up_slot (by decide)).trans (((tr14.2.2.2.1 228 (-1) (by decide) (by decide) (by decide) (Or.inl (by decide))).trans (rfl)))))))).symm) (by have e : (w_up (w_up (w_up (w_up Sq14 158 16 0) 158 17 0) 141 (st + fi) k1) 142 (st + fi) v1) 228 (-1) = S 228 (-1) := ((w_up_slot (by decide)).trans ((w_up_slot (by decide)).trans ((w_up_slot (by decide)).trans ((w_up_slot (by decide)).trans (((tr14.2.2.2.1 228 (-1) (by decide) (by decide) (by decide) (Or.inl (by decide))).trans (rfl))))))); rw [e]; exact ⟨bl2, bl3⟩) (by have e : (w_up (w_up (w_up (w_up Sq14 158 16 0) 158 17 0) 141 (st + fi) k1) 142 (st + fi) v1) 228 (-1) = S 228 (-1) := ((w_up_slot (by decide)).trans ((w_up_slot (by decide)).trans ((w_up_slot (by decide)).trans ((w_up_slot (by decide)).trans (((tr14.2.2.2.1 228 (-1) (by decide) (by decide) (by decide) (Or.inl (by decide))).trans (rfl))))))); omega) ⟨by omega, by omega⟩ ⟨by omega, by omega⟩ ⟨by omega, by omega⟩ ⟨by omega, by omega⟩) (fun oq26 Sq26 hp27 q26 => ?_)
                      rcases q26 with ⟨rfl, hgv26⟩
                      show wJ _ _ _ _ _ _ _ _ _ _
                      refine wa_return rfl ?_
                      refine ⟨rfl, Or.inr ⟨by omega, Sq14, (w_up (w_up (w_up (w_up Sq14 158 16 0) 158 17 0) 141 (st + fi) k1) 142 (st + fi) v1), tr14, ?_, ?_⟩⟩
                      · exact fun j i hji => w_up_cg2 (w_up_cg2 ((w_up_no (by omega)).trans (w_up_no (by omega))))
                      · first | (rw [if_pos (show kd = 1 by omega), if_pos (show kd = 1 by omega)]; exact hgv26) | (rw [if_neg (show ¬ kd = 1 by omega), if_neg (show ¬ kd = 1 by omega)]; exact hgv26)
                    · skip
                      refine wa_aload_n (n := 0) rfl ?_
                      refine wa_aload_n (n := 0) rfl ?_
                      refine wb_gf5 158 rfl (wy_pr rfl) wt_158 wf_5_5 (v := 227) ((w_up_slot (by decide)).trans ((w_up_slot (by decide)).trans ((w_up_at (by decide)).trans ((w_up_at (by decide)).trans (((tr14.2.2.2.1 158 5 (by decide) (by decide) (by decide) (Or.inl (by decide))).trans (l5))))))) (fun r28 => ?_)
                      refine wb_gf4 227 rfl (wy_pr rfl) wt_227 wf_7_0 (v := 228) wl_227_0 ?_
                      refine wa_aload_n (n := 0) rfl ?_
                      refine wb_gf5 158 rfl (wy_pr rfl) wt_158 wf_5_5 (v := 227) ((w_up_slot (by decide)).trans ((w_up_slot (by decide)).trans ((w_up_at (by decide)).trans ((w_up_at (by decide)).trans (((tr14.2.2.2.1 158 5 (by decide) (by decide) (by decide) (Or.inl (by decide))).trans (l5))))))) (fun r29 => ?_)
                      refine wb_gfi 227 rfl (wy_pr rfl) wt_227 wf_7_2 (v := h) ((w_up_slot (by decide)).trans ((w_up_slot (by decide)).trans ((w_up_slot (by decide)).trans ((w_up_slot (by decide)).trans (((tr14.2.2.2.1 227 2 (by decide) (by decide) (by decide) (Or.inl (by decide))).trans (bh))))))) (fun r30 => ?_)
                      refine wa_iconst ?_
                      refine wa_isub ?_
                      refine wb_bald 228 rfl (wy_pr rfl) wt_228 (n := (S 228 (-1))) ((w_up_slot (by decide)).trans ((w_up_slot (by decide)).trans ((w_up_slot (by decide)).trans ((w_up_slot (by decide)).trans (((tr14.2.2.2.1 228 (-1) (by decide) (by decide) (by decide) (Or.inl (by decide))).trans (rfl))))))) (by omega) (by omega) (v := ky) ((w_up_slot (by decide)).trans ((w_up_slot (by decide)).trans ((w_up_slot (by decide)).trans ((w_up_slot (by decide)).trans (((tr14.2.2.2.1 228 (h - 1) (by decide) (by decide) (by decide) (Or.inl (by decide))).trans (hky))))))) (fun r31 => ?_)
                      refine wb_pfi 158 rfl (wy_pr rfl) wt_158 wf_5_16 (n := 16) rfl ⟨(by omega), (by omega)⟩ ?_
                      refine wa_aload_n (n := 0) rfl ?_
                      refine wa_aload_n (n := 0) rfl ?_
                      refine wb_gf5 158 rfl (wy_pr rfl) wt_158 wf_5_5 (v := 227) ((w_up_at (by decide)).trans ((w_up_slot (by decide)).trans ((w_up_slot (by decide)).trans ((w_up_at (by decide)).trans ((w_up_at (by decide)).trans (((tr14.2.2.2.1 158 5 (by decide) (by decide) (by decide) (Or.inl (by decide))).trans (l5)))))))) (fun r32 => ?_)
                      refine wb_gf4 227 rfl (wy_pr rfl) wt_227 wf_7_1 (v := 229) wl_227_1 ?_
                      refine wa_aload_n (n := 0) rfl ?_
                      refine wb_gf5 158 rfl (wy_pr rfl) wt_158 wf_5_5 (v := 227) ((w_up_at (by decide)).trans ((w_up_slot (by decide)).trans ((w_up_slot (by decide)).trans ((w_up_at (by decide)).trans ((w_up_at (by decide)).trans (((tr14.2.2.2.1 158 5 (by decide) (by decide) (by decide) (Or.inl (by decide))).trans (l5)))))))) (fun r33 => ?_)
                      refine wb_gfi 227 rfl (wy_pr rfl) wt_227 wf_7_2 (v := h) ((w_up_slot (by decide)).trans ((w_up_slot (by decide)).trans ((w_up_slot (by decide)).trans ((w_up_slot (by decide)).trans ((w_up_slot (by decide)).trans (((tr14.2.2.2.1 227 2 (by decide) (by decide) (by decide) (Or.inl (by decide))).trans (bh)))))))) (fun r34 => ?_)
                      refine wa_iconst ?_
                      refine wa_isub ?_
                      refine wb_lald 229 rfl (wy_pr rfl) wt_229 (n := (S 228 (-1))) ((w_up_slot (by decide)).trans ((w_up_slot (by decide)).trans ((w_up_slot (by decide)).trans ((w_up_slot (by decide)).trans ((w_up_slot (by decide)).trans (((tr14.2.2.2.1 229 (-1) (by decide) (by decide) (by decide) (Or.inl (by decide))).trans (bl1)))))))) (by omega) (by omega) (v := vy) ((w_up_slot (by decide)).trans ((w_up_slot (by decide)).trans ((w_up_slot (by decide)).trans ((w_up_slot (by decide)).trans ((w_up_slot (by decide)).trans (((tr14.2.2.2.1 229 (h - 1) (by decide) (by decide) (by decide) (Or.inl (by decide))).trans (hvy)))))))) (fun r35 => ?_)
                      refine wb_pfl 158 rfl (wy_pr rfl) wt_158 wf_5_17 (n := 17) rfl ⟨(by omega), (by omega)⟩ ?_
                      refine wa_fall ⟨_, rfl⟩ ?_
                      refine wa_aload_n (n := 0) rfl ?_
                      refine wa_aload_n (n := 0) rfl ?_
                      refine wb_gfi 158 rfl (wy_pr rfl) wt_158 wf_5_16 (v := ky) ((w_up_at (by decide)).trans (w_up_same _ _ _ _)) (fun r36 => ?_)
                      refine wa_aload_n (n := 0) rfl ?_
                      refine wb_gfl 158 rfl (wy_pr rfl) wt_158 wf_5_17 (v := vy) (w_up_same _ _ _ _) (fun r37 => ?_)
                      refine wa_cv 158 rfl (wy_pr rfl) wt_158 (M2 := mS [228, 229]) rfl at_XL_giveValue ⟨_, rfl⟩ rfl rfl ⟨trivial, trivial, trivial, (Or.inr ⟨wy_pr rfl, mS_no rfl⟩), (Or.inr ⟨wy_pr rfl, mS_no rfl⟩), trivial, trivial⟩ trivial (fun _ _ q => mS_sub (by decide) q) (glx_226 (S := (w_up (w_up (w_up (w_up (w_up (w_up Sq14 158 16 0) 158 17 0) 141 (st + fi) k1) 142 (st + fi) v1) 158 16 ky) 158 17 vy)) (k := ky) (v := vy) (h := h) (c := c) (p := p) (ba := ba) (w_CL_up (w_CL_up (w_CL_up (w_CL_up (w_CL_up (w_CL_up (CL_tr hC tr14) (by omega)) (by omega)) (by omega)) (by omega)) (by omega)) (by omega)) (gI_up (gI_up (gI_up (gI_up (gI_up (gI_up tr14.2.2.2.2.2.1 (by omega) (by omega) (by omega)) (by omega) (by omega) (by omega)) (by omega) (by omega) (by omega)) (by omega) (by omega) (by omega)) (by omega) (by omega) (by omega)) (by omega) (by omega) (by omega)) ((w_up_at (by decide)).trans ((w_up_at (by decide)).trans ((w_up_slot (by decide)).trans ((w_up_slot (by decide)).trans ((w_up_at (by decide)).trans ((w_up_at (by decide)).trans (((tr14.2.2.2.1 158 4 (by decide) (by decide) (by decide) (Or.inl (by decide))).trans (l4))))))))) ((w_up_at (by decide)).trans ((w_up_at (by decide)).trans ((w_up_slot (by decide)).trans ((w_up_slot (by decide)).trans ((w_up_at (by decide)).trans ((w_up_at (by decide)).trans (((tr14.2.2.2.1 158 5 (by decide) (by decide) (by decide) (Or.inl (by decide))).trans (l5))))))))) ((w_up_at (by decide)).trans ((w_up_at (by decide)).trans ((w_up_slot (by decide)).trans ((w_up_slot (by decide)).trans ((w_up_at (by decide)).trans ((w_up_at (by decide)).trans (((tr14.2.2.2.1 158 8 (by decide) (by decide) (by decide) (Or.inl (by decide))).trans (l8))))))))) ((w_up_slot (by decide)).trans ((w_up_slot (by decide)).trans ((w_up_slot (by decide)).trans ((w_up_slot (by decide)).trans ((w_up_slot (by decide)).trans ((w_up_slot (by decide)).trans (((tr14.2.2.2.1 226 4 (by decide) (by decide) (by decide) (Or.inl (by decide))).trans (bc))))))))) ((w_up_slot (by decide)).trans ((w_up_slot (by decide)).trans ((w_up_slot (by decide)).trans ((w_up_slot (by decide)).trans ((w_up_slot (by decide)).trans ((w_up_slot (by decide)).trans (((tr14.2.2.2.1 231 (c - 1) (by decide) (by decide) (by decide) (Or.inl (by decide))).trans (bp))))))))) ((((w_up_slot (by decide)).trans ((w_up_slot (by decide)).trans ((w_up_slot (by decide)).trans ((w_up_slot (by decide)).trans ((w_up_slot (by decide)).trans ((w_up_slot (by decide)).trans (((tr14.2.2.2.1 229 (-1) (by decide) (by decide) (by decide) (Or.inl (by decide))).trans (bl1)))))))))).trans (((w_up_slot (by decide)).trans ((w_up_slot (by decide)).trans ((w_up_slot (by decide)).trans ((w_up_slot (by decide)).trans ((w_up_slot (by decide)).trans ((w_up_slot (by decide)).trans (((tr14.2.2.2.1 228 (-1) (by decide) (by decide) (by decide) (Or.inl (by decide))).trans (rfl)))))))))).symm) (by have e : (w_up (w_up (w_up (w_up (w_up (w_up Sq14 158 16 0) 158 17 0) 141 (st + fi) k1) 142 (st + fi) v1) 158 16 ky) 158 17 vy) 228 (-1) = S 228 (-1) := ((w_up_slot (by decide)).trans ((w_up_slot (by decide)).trans ((w_up_slot (by decide)).trans ((w_up_slot (by decide)).trans ((w_up_slot (by decide)).trans ((w_up_slot (by decide)).trans (((tr14.2.2.2.1 228 (-1) (by decide) (by decide) (by decide) (Or.inl (by decide))).trans (rfl))))))))); rw [e]; exact ⟨bl2, bl3⟩) (by have e : (w_up (w_up (w_up (w_up (w_up (w_up Sq14 158 16 0) 158 17 0) 141 (st + fi) k1) 142 (st + fi) v1) 158 16 ky) 158 17 vy) 228 (-1) = S 228 (-1) := ((w_up_slot (by decide)).trans ((w_up_slot (by decide)).trans ((w_up_slot (by decide)).trans ((w_up_slot (by decide)).trans ((w_up_slot (by decide)).trans ((w_up_slot (by decide)).trans (((tr14.2.2.2.1 228 (-1) (by decide) (by decide) (by decide) (Or.inl (by decide))).trans (rfl))))))))); omega) ⟨by omega, by omega⟩ ⟨by omega, by omega⟩ ⟨by omega, by omega⟩ ⟨by omega, by omega⟩) (fun oq38 Sq38 hp39 q38 => ?_)
                      rcases q38 with ⟨rfl, hgv38⟩
                      show wJ _ _ _ _ _ _ _ _ _ _
                      refine wa_return rfl ?_
                      refine ⟨rfl, Or.inr ⟨by omega, Sq14, (w_up (w_up (w_up (w_up (w_up (w_up Sq14 158 16 0) 158 17 0) 141 (st + fi) k1) 142 (st + fi) v1) 158 16 ky) 158 17 vy), tr14, ?_, ?_⟩⟩
                      · exact fun j i hji => (w_up_no (by omega)).trans ((w_up_no (by omega)).trans (w_up_cg2 (w_up_cg2 ((w_up_no (by omega)).trans (w_up_no (by omega))))))
                      · first | (rw [if_pos (show kd = 1 by omega), if_pos (show kd = 1 by omega)]; exact hgv38) | (rw [if_neg (show ¬ kd = 1 by omega), if_neg (show ¬ kd = 1 by omega)]; exact hgv38)
                · skip
                  exact absurd c16 (by omega)
              · skip
                exact absurd c12 (by omega)
            · skip
              exact absurd c11 (by omega)
        · skip
          exact absurd c7 (by omega)
      · skip
        refine wa_aload_n (n := 2) rfl ?_
        refine wb_gf4 162 rfl (wy_pr rfl) wt_162 wf_3_3 (v := 185) wl_162_3 ?_
        refine wa_bipush (w_rg2 (by omega) (by omega)) ?_
        refine wb_aald5 185 15 rfl rfl (wy_pr rfl) wt_185 (by rw [show _ = _ from ((cl_185 hC))]; omega) wl_185_15 ?_
        refine wa_iload_n (n := 1) rfl ?_
        refine wb_iald 201 rfl (wy_pr rfl) wt_201 (n := 400) ((cl_201 hC)) (by omega) (by omega) (v := fl) (hmf) (fun r40 => ?_)
        refine wa_iconst ?_
        refine wa_icmpne (w_rg0 (by omega) (by omega)) (w_rg0 (by omega) (by omega)) ⟨_, rfl⟩ (fun c41 => ?_) (fun c41 => ?_)
        · skip
          refine wa_iconst ?_
          refine wa_fall ⟨_, rfl⟩ ?_
          refine wa_istore (n := 4) rfl ?_
          refine wa_iload_n (n := 3) rfl ?_
          refine wa_ifeq (w_rg0 (by omega) (by omega)) ⟨_, rfl⟩ (fun c42 => ?_) (fun c42 => ?_)
          · skip
            refine wa_iconst ?_
            refine wa_fall ⟨_, rfl⟩ ?_
            refine wa_istore (n := 5) rfl ?_
            refine wa_aload_n (n := 0) rfl ?_
            refine wb_gf4 158 rfl (wy_pr rfl) wt_158 wf_5_0 (v := 72) wl_158_0 ?_
            refine wb_gfi 72 rfl (wy_pr rfl) wt_72 wf_2_15 (v := tn) (ht15) (fun r43 => ?_)
            refine wa_iconst ?_
            refine wa_iadd ?_
            refine wb_ki (n := 100000) rfl ?_
            refine wa_icmpgt (w_rg0 (by omega) (by omega)) (w_rg0 (by omega) (by omega)) ⟨_, rfl⟩ (fun c44 => ?_) (fun c44 => ?_)
            · skip
              refine wa_aload_n (n := 0) rfl ?_
              refine wb_gf5 158 rfl (wy_pr rfl) wt_158 wf_5_4 (v := 226) (l4) (fun r45 => ?_)
              refine wa_bipush (w_rg2 (by omega) (by omega)) ?_
              refine wb_pfi 226 rfl (wy_pr rfl) wt_226 wf_8_16 (n := 16) rfl ⟨(by omega), (by omega)⟩ ?_
              refine wa_return rfl ?_
              exact ⟨rfl, Or.inl ⟨by omega, rfl⟩⟩
            · skip
              refine wa_iload_n (n := 3) rfl ?_
              refine wa_ifeq (w_rg0 (by omega) (by omega)) ⟨_, rfl⟩ (fun c46 => ?_) (fun c46 => ?_)
              · skip
                refine wa_iload (n := 4) rfl ?_
                refine wa_ifeq (w_rg0 (by omega) (by omega)) ⟨_, rfl⟩ (fun c47 => ?_) (fun c47 => ?_)
                · skip
                  refine wa_aload_n (n := 0) rfl ?_
                  refine wb_gf4 158 rfl (wy_pr rfl) wt_158 wf_5_0 (v := 72) wl_158_0 ?_
                  refine wa_iload_n (n := 1) rfl ?_
                  refine wa_aload_n (n := 0) rfl ?_
                  refine wb_gfi 158 rfl (wy_pr rfl) wt_158 wf_5_12 (v := en) (l12) (fun r48 => ?_)
                  refine wa_cv 72 rfl (wy_pr rfl) wt_72 (M2 := mS [152]) rfl at_XH_addTrace ⟨_, rfl⟩ rfl rfl ⟨trivial, trivial, trivial, (Or.inr ⟨wy_pr rfl, mS_no rfl⟩), (Or.inr ⟨wy_pr rfl, mS_no rfl⟩), trivial, trivial⟩ trivial (fun _ _ q => mS_sub (by decide) q) (tra (S := S) (m := m) (k := en) hI ⟨by omega, by omega⟩ ⟨by omega, by omega⟩ (by rw [ht15]; exact ht0) (by rw [ht15]; exact ht9)) (fun oq49 Sq49 hp50 q49 => ?_)
                  rcases q49 with ⟨rfl, tr49⟩
                  show wJ _ _ _ _ _ _ _ _ _ _
                  refine wa_aload_n (n := 0) rfl ?_
                  refine wa_iconst ?_
                  refine wb_pfi 158 rfl (wy_pr rfl) wt_158 wf_5_16 (n := 16) rfl ⟨(by omega), (by omega)⟩ ?_
                  refine wa_aload_n (n := 0) rfl ?_
                  refine wb_lconst (m := 0) rfl ?_
                  refine wb_pfl 158 rfl (wy_pr rfl) wt_158 wf_5_17 (n := 17) rfl ⟨(by omega), (by omega)⟩ ?_
                  refine wa_iload_n (n := 3) rfl ?_
                  refine wa_ifeq (w_rg0 (by omega) (by omega)) ⟨_, rfl⟩ (fun c51 => ?_) (fun c51 => ?_)
                  · skip
                    refine wa_aload_n (n := 2) rfl ?_
                    refine wb_gf4 162 rfl (wy_pr rfl) wt_162 wf_3_3 (v := 185) wl_162_3 ?_
                    refine wa_bipush (w_rg2 (by omega) (by omega)) ?_
                    refine wb_aald5 185 15 rfl rfl (wy_pr rfl) wt_185 (by rw [show _ = _ from ((w_up_slot (by decide)).trans ((w_up_slot (by decide)).trans (((tr49.2.2.2.1 185 (-1) (by decide) (by decide) (by decide) (Or.inl (by decide))).trans ((cl_185 hC))))))]; omega) wl_185_15 ?_
                    refine wa_iload_n (n := 1) rfl ?_
                    refine wb_iald 201 rfl (wy_pr rfl) wt_201 (n := 400) ((w_up_slot (by decide)).trans ((w_up_slot (by decide)).trans (((tr49.2.2.2.1 201 (-1) (by decide) (by decide) (by decide) (Or.inl (by decide))).trans ((cl_201 hC)))))) (by omega) (by omega) (v := fl) ((w_up_slot (by decide)).trans ((w_up_slot (by decide)).trans (((tr49.2.2.2.1 201 m (by decide) (by decide) (by decide) (Or.inl (by decide))).trans (hmf))))) (fun r52 => ?_)
                    refine wa_iconst ?_
                    refine wa_icmpeq (w_rg0 (by omega) (by omega)) (w_rg0 (by omega) (by omega)) ⟨_, rfl⟩ (fun c53 => ?_) (fun c53 => ?_)
                    · skip
                      exact absurd c53 (by omega)
                    · skip
                      refine wa_aload_n (n := 0) rfl ?_
                      refine wa_iload_n (n := 1) rfl ?_
                      refine wa_aload_n (n := 2) rfl ?_
                      refine wb_gf4 162 rfl (wy_pr rfl) wt_162 wf_3_3 (v := 185) wl_162_3 ?_
                      refine wa_bipush (w_rg2 (by omega) (by omega)) ?_
                      refine wb_aald5 185 15 rfl rfl (wy_pr rfl) wt_185 (by rw [show _ = _ from ((w_up_slot (by decide)).trans ((w_up_slot (by decide)).trans (((tr49.2.2.2.1 185 (-1) (by decide) (by decide) (by decide) (Or.inl (by decide))).trans ((cl_185 hC))))))]; omega) wl_185_15 ?_
                      refine wa_iload_n (n := 1) rfl ?_
                      refine wb_iald 201 rfl (wy_pr rfl) wt_201 (n := 400) ((w_up_slot (by decide)).trans ((w_up_slot (by decide)).trans (((tr49.2.2.2.1 201 (-1) (by decide) (by decide) (by decide) (Or.inl (by decide))).trans ((cl_201 hC)))))) (by omega) (by omega) (v := fl) ((w_up_slot (by decide)).trans ((w_up_slot (by decide)).trans (((tr49.2.2.2.1 201 m (by decide) (by decide) (by decide) (Or.inl (by decide))).trans (hmf))))) (fun r54 => ?_)
                      have hf2 : ∀ (j : Nat) (i : Int), j < 4000000 → j ≠ wG → j ≠ 152 → j ≠ 72 → j ≠ 158 → (w_up (w_up Sq49 158 16 0) 158 17 0) j i = S j i := fun j i a b c d e => (w_up_no (fun z => e z.1)).trans ((w_up_no (fun z => e z.1)).trans (tr49.2.2.2.1 j i a b c (Or.inl d)))
                      have el : (w_up (w_up Sq49 158 16 0) 158 17 0) 141 (-1) = S 141 (-1) := (hf2 141 _ (by first | decide | omega) (by first | decide | omega) (by first | decide | omega) (by first | decide | omega) (by first | decide | omega))
                      have el2 : (w_up (w_up Sq49 158 16 0) 158 17 0) 142 (-1) = S 142 (-1) := (hf2 142 _ (by first | decide | omega) (by first | decide | omega) (by first | decide | omega) (by first | decide | omega) (by first | decide | omega))
                      have el3 : (w_up (w_up Sq49 158 16 0) 158 17 0) 127 (-1) = S 127 (-1) := (hf2 127 _ (by first | decide | omega) (by first | decide | omega) (by first | decide | omega) (by first | decide | omega) (by first | decide | omega))
                      have el8 : (w_up (w_up Sq49 158 16 0) 158 17 0) 228 (-1) = S 228 (-1) := (hf2 228 _ (by first | decide | omega) (by first | decide | omega) (by first | decide | omega) (by first | decide | omega) (by first | decide | omega))
                      have el9 : (w_up (w_up Sq49 158 16 0) 158 17 0) 229 (-1) = S 229 (-1) := (hf2 229 _ (by first | decide | omega) (by first | decide | omega) (by first | decide | omega) (by first | decide | omega) (by first | decide | omega))
                      refine wa_cv 158 rfl (wy_pr rfl) wt_158 (M2 := fun _ => False) rfl at_XL_useField ⟨_, rfl⟩ rfl rfl ⟨trivial, trivial, trivial, (Or.inr ⟨wy_pr rfl, fun q => q⟩), (Or.inr ⟨wy_pr rfl, fun q => q⟩), trivial, trivial⟩ trivial (fun _ _ q => False.elim q) (uss0_162_226 (S := (w_up (w_up Sq49 158 16 0) 158 17 0)) (m := m) (f := fl) (w_CL_up (w_CL_up (CL_tr hC tr49) (by omega)) (by omega)) ((w_up_slot (by decide)).trans ((w_up_slot (by decide)).trans (((tr49.2.2.2.1 72 1 (by decide) (by decide) (by decide) (Or.inr (by decide))).trans (h72))))) ((w_up_at (by decide)).trans ((w_up_at (by decide)).trans (((tr49.2.2.2.1 158 5 (by decide) (by decide) (by decide) (Or.inl (by decide))).trans (l5))))) ((w_up_at (by decide)).trans ((w_up_at (by decide)).trans (((tr49.2.2.2.1 158 8 (by decide) (by decide) (by decide) (Or.inl (by decide))).trans (l8))))) (((w_up_at (by decide)).trans ((w_up_at (by decide)).trans ((tr49.2.2.2.1 158 10 (by decide) (by decide) (by decide) (Or.inl (by decide)))))).trans l10) hm hfl ((hf2 188 _ (by decide) (by decide) (by decide) (by decide) (by decide)).trans hstt) ((hf2 201 _ (by decide) (by decide) (by decide) (by decide) (by decide)).trans hfi) (fun x hx => by rw [hf2 (127 + x) (-1) (by omega) (by unfold wG; omega) (by omega) (by omega) (by omega), el3]; exact hth x hx) (by rw [el3]; exact hn2) (by rw [el, el2]; exact hl14) (by rw [el]; exact hz14) (by rw [el3]; exact hgb) ((hf2 133 _ (by decide) (by decide) (by decide) (by decide) (by decide)).trans hst) (by rw [el]; exact hrb) ((hf2 190 _ (by decide) (by decide) (by decide) (by decide) (by decide)).trans hmc) (by rw [el8, el9]; exact bl1) (by rw [el8]; exact ⟨by omega, by omega, bl3⟩) ((hf2 228 _ (by decide) (by decide) (by decide) (by decide) (by decide)).trans hk1) ((hf2 229 _ (by decide) (by decide) (by decide) (by decide) (by decide)).trans hv1)) (fun oq55 Sq55 hp56 q55 => ?_)
                      rcases q55 with ⟨rfl, rfl⟩
                      show wJ _ _ _ _ _ _ _ _ _ _
                      refine wa_goto ⟨_, rfl⟩ ?_
                      refine wa_aload_n (n := 0) rfl ?_
                      refine wb_gfi 158 rfl (wy_pr rfl) wt_158 wf_5_7 (v := kd) ((w_up_slot (by decide)).trans ((w_up_slot (by decide)).trans ((w_up_at (by decide)).trans ((w_up_at (by decide)).trans (((tr49.2.2.2.1 158 7 (by decide) (by decide) (by decide) (Or.inl (by decide))).trans (l7))))))) (fun r57 => ?_)
                      refine wa_iconst ?_
                      refine wa_icmpne (w_rg0 (by omega) (by omega)) (w_rg0 (by omega) (by omega)) ⟨_, rfl⟩ (fun c58 => ?_) (fun c58 => ?_)
                      · skip
                        refine wa_aload_n (n := 0) rfl ?_
                        refine wa_aload_n (n := 0) rfl ?_
                        refine wb_gfi 158 rfl (wy_pr rfl) wt_158 wf_5_16 (v := 0) ((w_up_slot (by decide)).trans ((w_up_slot (by decide)).trans ((w_up_at (by decide)).trans (w_up_same _ _ _ _)))) (fun r59 => ?_)
                        refine wa_aload_n (n := 0) rfl ?_
                        refine wb_gfl 158 rfl (wy_pr rfl) wt_158 wf_5_17 (v := 0) ((w_up_slot (by decide)).trans ((w_up_slot (by decide)).trans (w_up_same _ _ _ _))) (fun r60 => ?_)
                        refine wa_cv 158 rfl (wy_pr rfl) wt_158 (M2 := mS [228, 229]) rfl at_XL_giveValue ⟨_, rfl⟩ rfl rfl ⟨trivial, trivial, trivial, (Or.inr ⟨wy_pr rfl, mS_no rfl⟩), (Or.inr ⟨wy_pr rfl, mS_no rfl⟩), trivial, trivial⟩ trivial (fun _ _ q => mS_sub (by decide) q) (glx_226 (S := (w_up (w_up (w_up (w_up Sq49 158 16 0) 158 17 0) 141 (st + fi) k1) 142 (st + fi) v1)) (k := 0) (v := 0) (h := h) (c := c) (p := p) (ba := ba) (w_CL_up (w_CL_up (w_CL_up (w_CL_up (CL_tr hC tr49) (by omega)) (by omega)) (by omega)) (by omega)) (gI_up (gI_up (gI_up (gI_up tr49.2.2.2.2.2.1 (by omega) (by omega) (by omega)) (by omega) (by omega) (by omega)) (by omega) (by omega) (by omega)) (by omega) (by omega) (by omega)) ((w_up_slot (by decide)).trans ((w_up_slot (by decide)).trans ((w_up_at (by decide)).trans ((w_up_at (by decide)).trans (((tr49.2.2.2.1 158 4 (by decide) (by decide) (by decide) (Or.inl (by decide))).trans (l4))))))) ((w_up_slot (by decide)).trans ((w_up_slot (by decide)).trans ((w_up_at (by decide)).trans ((w_up_at (by decide)).trans (((tr49.2.2.2.1 158 5 (by decide) (by decide) (by decide) (Or.inl (by decide))).trans (l5))))))) ((w_up_slot (by decide)).trans ((w_up_slot (by decide)).trans ((w_up_at (by decide)).trans ((w_up_at (by decide)).trans (((tr49.2.2.2.1 158 8 (by decide) (by decide) (by decide) (Or.inl (by decide))).trans (l8))))))) ((w_up_slot (by decide)).trans ((w_up_slot (by decide)).trans ((w_up_slot (by decide)).trans ((w_up_slot (by decide)).trans (((tr49.2.2.2.1 226 4 (by decide) (by decide) (by decide) (Or.inl (by decide))).trans (bc))))))) ((w_up_slot (by decide)).trans ((w_up_slot (by decide)).trans ((w_up_slot (by decide)).trans ((w_up_slot (by decide)).trans (((tr49.2.2.2.1 231 (c - 1) (by decide) (by decide) (by decide) (Or.inl (by decide))).trans (bp))))))) ((((w_up_slot (by decide)).trans ((w_up_slot (by decide)).trans ((w_up_slot (by decide)).trans ((w_up_slot (by decide)).trans (((tr49.2.2.2.1 229 (-1) (by decide) (by decide) (by decide) (Or.inl (by decide))).trans (bl1)))))))).trans (((w_up_slot (by decide)).trans ((w_up_slot (by decide)).trans ((w_up_slot (by decide)).trans ((w_up_slot (by decide)).trans (((tr49.2.2.2.1 228 (-1) (by decide) (by decide) (by decide) (Or.inl (by decide))).trans (rfl)))))))).symm) (by have e : (w_up (w_up (w_up (w_up Sq49 158 16 0) 158 17 0) 141 (st + fi) k1) 142 (st + fi) v1) 228 (-1) = S 228 (-1) := ((w_up_slot (by decide)).trans ((w_up_slot (by decide)).trans ((w_up_slot (by decide)).trans ((w_up_slot (by decide)).trans (((tr49.2.2.2.1 228 (-1) (by decide) (by decide) (by decide) (Or.inl (by decide))).trans (rfl))))))); rw [e]; exact ⟨bl2, bl3⟩) (by have e : (w_up (w_up (w_up (w_up Sq49 158 16 0) 158 17 0) 141 (st + fi) k1) 142 (st + fi) v1) 228 (-1) = S 228 (-1) := ((w_up_slot (by decide)).trans ((w_up_slot (by decide)).trans ((w_up_slot (by decide)).trans ((w_up_slot (by decide)).trans (((tr49.2.2.2.1 228 (-1) (by decide) (by decide) (by decide) (Or.inl (by decide))).trans (rfl))))))); omega) ⟨by omega, by omega⟩ ⟨by omega, by omega⟩ ⟨by omega, by omega⟩ ⟨by omega, by omega⟩) (fun oq61 Sq61 hp62 q61 => ?_)
                        rcases q61 with ⟨rfl, hgv61⟩
                        show wJ _ _ _ _ _ _ _ _ _ _
                        refine wa_return rfl ?_
                        refine ⟨rfl, Or.inr ⟨by omega, Sq49, (w_up (w_up (w_up (w_up Sq49 158 16 0) 158 17 0) 141 (st + fi) k1) 142 (st + fi) v1), tr49, ?_, ?_⟩⟩
                        · exact fun j i hji => w_up_cg2 (w_up_cg2 ((w_up_no (by omega)).trans (w_up_no (by omega))))
                        · first | (rw [if_pos (show kd = 1 by omega), if_pos (show kd = 1 by omega)]; exact hgv61) | (rw [if_neg (show ¬ kd = 1 by omega), if_neg (show ¬ kd = 1 by omega)]; exact hgv61)
                      · skip
                        refine wa_aload_n (n := 0) rfl ?_
                        refine wa_aload_n (n := 0) rfl ?_
                        refine wb_gf5 158 rfl (wy_pr rfl) wt_158 wf_5_5 (v := 227) ((w_up_slot (by decide)).trans ((w_up_slot (by decide)).trans ((w_up_at (by decide)).trans ((w_up_at (by decide)).trans (((tr49.2.2.2.1 158 5 (by decide) (by decide) (by decide) (Or.inl (by decide))).trans (l5))))))) (fun r63 => ?_)
                        refine wb_gf4 227 rfl (wy_pr rfl) wt_227 wf_7_0 (v := 228) wl_227_0 ?_
                        refine wa_aload_n (n := 0) rfl ?_
                        refine wb_gf5 158 rfl (wy_pr rfl) wt_158 wf_5_5 (v := 227) ((w_up_slot (by decide)).trans ((w_up_slot (by decide)).trans ((w_up_at (by decide)).trans ((w_up_at (by decide)).trans (((tr49.2.2.2.1 158 5 (by decide) (by decide) (by decide) (Or.inl (by decide))).trans (l5))))))) (fun r64 => ?_)
                        refine wb_gfi 227 rfl (wy_pr rfl) wt_227 wf_7_2 (v := h) ((w_up_slot (by decide)).trans ((w_up_slot (by decide)).trans ((w_up_slot (by decide)).trans ((w_up_slot (by decide)).trans (((tr49.2.2.2.1 227 2 (by decide) (by decide) (by decide) (Or.inl (by decide))).trans (bh))))))) (fun r65 => ?_)
                        refine wa_iconst ?_
                        refine wa_isub ?_
                        refine wb_bald 228 rfl (wy_pr rfl) wt_228 (n := (S 228 (-1))) ((w_up_slot (by decide)).trans ((w_up_slot (by decide)).trans ((w_up_slot (by decide)).trans ((w_up_slot (by decide)).trans (((tr49.2.2.2.1 228 (-1) (by decide) (by decide) (by decide) (Or.inl (by decide))).trans (rfl))))))) (by omega) (by omega) (v := ky) ((w_up_slot (by decide)).trans ((w_up_slot (by decide)).trans ((w_up_slot (by decide)).trans ((w_up_slot (by decide)).trans (((tr49.2.2.2.1 228 (h - 1) (by decide) (by decide) (by decide) (Or.inl (by decide))).trans (hky))))))) (fun r66 => ?_)
                        refine wb_pfi 158 rfl (wy_pr rfl) wt_158 wf_5_16 (n := 16) rfl ⟨(by omega), (by omega)⟩ ?_
                        refine wa_aload_n (n := 0) rfl ?_
                        refine wa_aload_n (n := 0) rfl ?_
                        refine wb_gf5 158 rfl (wy_pr rfl) wt_158 wf_5_5 (v := 227) ((w_up_at (by decide)).trans ((w_up_slot (by decide)).trans ((w_up_slot (by decide)).trans ((w_up_at (by decide)).trans ((w_up_at (by decide)).trans (((tr49.2.2.2.1 158 5 (by decide) (by decide) (by decide) (Or.inl (by decide))).trans (l5)))))))) (fun r67 => ?_)
                        refine wb_gf4 227 rfl (wy_pr rfl) wt_227 wf_7_1 (v := 229) wl_227_1 ?_
                        refine wa_aload_n (n := 0) rfl ?_
                        refine wb_gf5 158 rfl (wy_pr rfl) wt_158 wf_5_5 (v := 227) ((w_up_at (by decide)).trans ((w_up_slot (by decide)).trans ((w_up_slot (by decide)).trans ((w_up_at (by decide)).trans ((w_up_at (by decide)).trans (((tr49.2.2.2.1 158 5 (by decide) (by decide) (by decide) (Or.inl (by decide))).trans (l5)))))))) (fun r68 => ?_)
                        refine wb_gfi 227 rfl (wy_pr rfl) wt_227 wf_7_2 (v := h) ((w_up_slot (by decide)).trans ((w_up_slot (by decide)).trans ((w_up_slot (by decide)).trans ((w_up_slot (by decide)).trans ((w_up_slot (by decide)).trans (((tr49.2.2.2.1 227 2 (by decide) (by decide) (by decide) (Or.inl (by decide))).trans (bh)))))))) (fun r69 => ?_)
                        refine wa_iconst ?_
                        refine wa_isub ?_
                        refine wb_lald 229 rfl (wy_pr rfl) wt_229 (n := (S 228 (-1))) ((w_up_slot (by decide)).trans ((w_up_slot (by decide)).trans ((w_up_slot (by decide)).trans ((w_up_slot (by decide)).trans ((w_up_slot (by decide)).trans (((tr49.2.2.2.1 229 (-1) (by decide) (by decide) (by decide) (Or.inl (by decide))).trans (bl1)))))))) (by omega) (by omega) (v := vy) ((w_up_slot (by decide)).trans ((w_up_slot (by decide)).trans ((w_up_slot (by decide)).trans ((w_up_slot (by decide)).trans ((w_up_slot (by decide)).trans (((tr49.2.2.2.1 229 (h - 1) (by decide) (by decide) (by decide) (Or.inl (by decide))).trans (hvy)))))))) (fun r70 => ?_)
                        refine wb_pfl 158 rfl (wy_pr rfl) wt_158 wf_5_17 (n := 17) rfl ⟨(by omega), (by omega)⟩ ?_
                        refine wa_fall ⟨_, rfl⟩ ?_
                        refine wa_aload_n (n := 0) rfl ?_
                        refine wa_aload_n (n := 0) rfl ?_
                        refine wb_gfi 158 rfl (wy_pr rfl) wt_158 wf_5_16 (v := ky) ((w_up_at (by decide)).trans (w_up_same _ _ _ _)) (fun r71 => ?_)
                        refine wa_aload_n (n := 0) rfl ?_
                        refine wb_gfl 158 rfl (wy_pr rfl) wt_158 wf_5_17 (v := vy) (w_up_same _ _ _ _) (fun r72 => ?_)
                        refine wa_cv 158 rfl (wy_pr rfl) wt_158 (M2 := mS [228, 229]) rfl at_XL_giveValue ⟨_, rfl⟩ rfl rfl ⟨trivial, trivial, trivial, (Or.inr ⟨wy_pr rfl, mS_no rfl⟩), (Or.inr ⟨wy_pr rfl, mS_no rfl⟩), trivial, trivial⟩ trivial (fun _ _ q => mS_sub (by decide) q) (glx_226 (S := (w_up (w_up (w_up (w_up (w_up (w_up Sq49 158 16 0) 158 17 0) 141 (st + fi) k1) 142 (st + fi) v1) 158 16 ky) 158 17 vy)) (k := ky) (v := vy) (h := h) (c := c) (p := p) (ba := ba) (w_CL_up (w_CL_up (w_CL_up (w_CL_up (w_CL_up (w_CL_up (CL_tr hC tr49) (by omega)) (by omega)) (by omega)) (by omega)) (by omega)) (by omega)) (gI_up (gI_up (gI_up (gI_up (gI_up (gI_up tr49.2.2.2.2.2.1 (by omega) (by omega) (by omega)) (by omega) (by omega) (by omega)) (by omega) (by omega) (by omega)) (by omega) (by omega) (by omega)) (by omega) (by omega) (by omega)) (by omega) (by omega) (by omega)) ((w_up_at (by decide)).trans ((w_up_at (by decide)).trans ((w_up_slot (by decide)).trans ((w_up_slot (by decide)).trans ((w_up_at (by decide)).trans ((w_up_at (by decide)).trans (((tr49.2.2.2.1 158 4 (by decide) (by decide) (by decide) (Or.inl (by decide))).trans (l4))))))))) ((w_up_at (by decide)).trans ((w_up_at (by decide)).trans ((w_up_slot (by decide)).trans ((w_up_slot (by decide)).trans ((w_up_at (by decide)).trans ((w_up_at (by decide)).trans (((tr49.2.2.2.1 158 5 (by decide) (by decide) (by decide) (Or.inl (by decide))).trans (l5))))))))) ((w_up_at (by decide)).trans ((w_up_at (by decide)).trans ((w_up_slot (by decide)).trans ((w_up_slot (by decide)).trans ((w_up_at (by decide)).trans ((w_up_at (by decide)).trans (((tr49.2.2.2.1 158 8 (by decide) (by decide) (by decide) (Or.inl (by decide))).trans (l8))))))))) ((w_up_slot (by decide)).trans ((w_up_slot (by decide)).trans ((w_up_slot (by decide)).trans ((w_up_slot (by decide)).trans ((w_up_slot (by decide)).trans ((w_up_slot (by decide)).trans (((tr49.2.2.2.1 226 4 (by decide) (by decide) (by decide) (Or.inl (by decide))).trans (bc))))))))) ((w_up_slot (by decide)).trans ((w_up_slot (by decide)).trans ((w_up_slot (by decide)).trans ((w_up_slot (by decide)).trans ((w_up_slot (by decide)).trans ((w_up_slot (by decide)).trans (((tr49.2.2.2.1 231 (c - 1) (by decide) (by decide) (by decide) (Or.inl (by decide))).trans (bp))))))))) ((((w_up_slot (by decide)).trans ((w_up_slot (by decide)).trans ((w_up_slot (by decide)).trans ((w_up_slot (by decide)).trans ((w_up_slot (by decide)).trans ((w_up_slot (by decide)).trans (((tr49.2.2.2.1 229 (-1) (by decide) (by decide) (by decide) (Or.inl (by decide))).trans (bl1)))))))))).trans (((w_up_slot (by decide)).trans ((w_up_slot (by decide)).trans ((w_up_slot (by decide)).trans ((w_up_slot (by decide)).trans ((w_up_slot (by decide)).trans ((w_up_slot (by decide)).trans (((tr49.2.2.2.1 228 (-1) (by decide) (by decide) (by decide) (Or.inl (by decide))).trans (rfl)))))))))).symm) (by have e : (w_up (w_up (w_up (w_up (w_up (w_up Sq49 158 16 0) 158 17 0) 141 (st + fi) k1) 142 (st + fi) v1) 158 16 ky) 158 17 vy) 228 (-1) = S 228 (-1) := ((w_up_slot (by decide)).trans ((w_up_slot (by decide)).trans ((w_up_slot (by decide)).trans ((w_up_slot (by decide)).trans ((w_up_slot (by decide)).trans ((w_up_slot (by decide)).trans (((tr49.2.2.2.1 228 (-1) (by decide) (by decide) (by decide) (Or.inl (by decide))).trans (rfl))))))))); rw [e]; exact ⟨bl2, bl3⟩) (by have e : (w_up (w_up (w_up (w_up (w_up (w_up Sq49 158 16 0) 158 17 0) 141 (st + fi) k1) 142 (st + fi) v1) 158 16 ky) 158 17 vy) 228 (-1) = S 228 (-1) := ((w_up_slot (by decide)).trans ((w_up_slot (by decide)).trans ((w_up_slot (by decide)).trans ((w_up_slot (by decide)).trans ((w_up_slot (by decide)).trans ((w_up_slot (by decide)).trans (((tr49.2.2.2.1 228 (-1) (by decide) (by decide) (by decide) (Or.inl (by decide))).trans (rfl))))))))); omega) ⟨by omega, by omega⟩ ⟨by omega, by omega⟩ ⟨by omega, by omega⟩ ⟨by omega, by omega⟩) (fun oq73 Sq73 hp74 q73 => ?_)
                        rcases q73 with ⟨rfl, hgv73⟩
                        show wJ _ _ _ _ _ _ _ _ _ _
                        refine wa_return rfl ?_
                        refine ⟨rfl, Or.inr ⟨by omega, Sq49, (w_up (w_up (w_up (w_up (w_up (w_up Sq49 158 16 0) 158 17 0) 141 (st + fi) k1) 142 (st + fi) v1) 158 16 ky) 158 17 vy), tr49, ?_, ?_⟩⟩
                        · exact fun j i hji => (w_up_no (by omega)).trans ((w_up_no (by omega)).trans (w_up_cg2 (w_up_cg2 ((w_up_no (by omega)).trans (w_up_no (by omega))))))
                        · first | (rw [if_pos (show kd = 1 by omega), if_pos (show kd = 1 by omega)]; exact hgv73) | (rw [if_neg (show ¬ kd = 1 by omega), if_neg (show ¬ kd = 1 by omega)]; exact hgv73)
                  · skip
                    exact absurd c51 (by omega)
                · skip
                  exact absurd c47 (by omega)
              · skip
                exact absurd c46 (by omega)
          · skip
            exact absurd c42 (by omega)
        · skip
          exact absurd c41 (by omega)
  · skip
    exact absurd c3 (by omega)
end Whn
