/-! PART gk: lookAtThing and lookAtRow of the class's linker. -/
section Wgk
variable {xs : List (Nat × List Int32)} {M : Nat → Prop} {d : Nat} {S Z A : wS} {H : List aH} {T : List aO} {L : List aC} {G : Int → aV} {s kd nms gk gb nm es fo n g at0 : Int}
/-- an entry that nothing was found into yet; l: its linker -/
def blE (l fo : Int) (S : wS) : Prop := (S 48 fo = l ∧ S 49 fo = -1 ∧ S 50 fo = -1 ∧ S 51 fo = -1 ∧ S 52 fo = -1) ∧ S 53 fo = -1 ∧ S 54 fo = -1 ∧ S 55 fo = -1 ∧ S 56 fo = -1
/-- what was found of a fun that is called -/
theorem cE_c (h : blE 0 fo S) (hk : kd = 4 ∨ kd = 6) : cEc (w_up S 49 fo g) kd nms (0, g, -1, -1, -1, -1, at0, 0, 0) fo := by
  obtain ⟨⟨h1, h2, h3, h4, h5⟩, h6, h7, h8, h9⟩ := h
  refine ⟨⟨(w_up_slot (by first | decide | omega)).trans h1, w_up_same _ _ _ _, (w_up_slot (by first | decide | omega)).trans h3, (w_up_slot (by first | decide | omega)).trans h4, (w_up_slot (by first | decide | omega)).trans h5⟩, ((w_up_slot (by first | decide | omega)).trans h6).trans (if_neg (fun z => by omega)).symm, ((w_up_slot (by first | decide | omega)).trans h7).trans (if_neg (fun z => by omega)).symm, ((w_up_slot (by first | decide | omega)).trans h8).trans (if_neg (fun z => by rcases z.1 with y | y <;> exact absurd y (by first | decide | omega))).symm, ((w_up_slot (by first | decide | omega)).trans h9).trans (if_neg (fun z => by rcases z.1 with y | y <;> exact absurd y (by first | decide | omega))).symm⟩
/-- what was found of a list or a text -/
theorem cE_r (h : blE 3 fo S) : cEc (w_up S 49 fo g) kd nms (3, g, -1, -1, -1, -1, at0, 0, 0) fo := by
  obtain ⟨⟨h1, h2, h3, h4, h5⟩, h6, h7, h8, h9⟩ := h
  refine ⟨⟨(w_up_slot (by first | decide | omega)).trans h1, w_up_same _ _ _ _, (w_up_slot (by first | decide | omega)).trans h3, (w_up_slot (by first | decide | omega)).trans h4, (w_up_slot (by first | decide | omega)).trans h5⟩, ((w_up_slot (by first | decide | omega)).trans h6).trans (if_neg (fun z => absurd z.1 (by first | decide | omega))).symm, ((w_up_slot (by first | decide | omega)).trans h7).trans (if_neg (fun z => absurd z.1 (by first | decide | omega))).symm, ((w_up_slot (by first | decide | omega)).trans h8).trans (if_neg (fun z => by rcases z.1 with y | y <;> exact absurd y (by first | decide | omega))).symm, ((w_up_slot (by first | decide | omega)).trans h9).trans (if_neg (fun z => by rcases z.1 with y | y <;> exact absurd y (by first | decide | omega))).symm⟩
/-- the name that is looked for -/
def nmE (kd nms nm : Int) : Prop := (kd = 2 ∨ kd = 3) ∨ nm = nms
def enE (kd nm : Int) : Int := if kd = 2 ∨ kd = 3 then nm else -1
theorem cNm_e {e : aE} (h0 : e.1 = 0) (h1 : kd ≠ 4 ∧ kd ≠ 6) (h2 : nmE kd nms nm) (h3 : e.2.2.1 = enE kd nm) : cNm kd nms e = nm := by
  unfold cNm
  rw [if_pos ⟨h0, h1.1, h1.2⟩]
  by_cases c : kd = 2 ∨ kd = 3
  · rw [if_pos c, h3]; exact if_pos c
  · rw [if_neg c]; rcases h2 with z | z
    · exact absurd z c
    · exact z.symm
/-- what a GET finds -/
def gtE (T : List aO) (H : List aH) (kd nm gb ch : Int) : aE := (0, (tO T gb).2.1, enE kd nm, (if aUp T H nm gb = gb then -1 else aUp T H nm gb), (if aUp T H nm gb = -1 then -1 else aIx T nm (aUp T H nm gb)), -1, ch, 0, 0)
/-- what a SET finds; r: the shape that it comes to -/
def stE (T : List aO) (kd nm gb ch r : Int) : aE := (0, (tO T gb).2.1, enE kd nm, -1, aIx T nm gb, r, ch, 0, 0)
/-- what looking at a thing may change -/
def latM (w : Nat) (fo : Int) (j : Nat) (x : Int) : Prop := (48 ≤ j ∧ j ≤ 56 ∧ x = fo) ∨ (j = w ∧ x = 16)
def latN (w : Nat) (fo : Int) (j : Nat) (x : Int) : Prop := latM w fo j x ∨ (144 ≤ j ∧ j ≤ 149) ∨ (j = 72 ∧ x = 8) ∨ (j = 150 ∧ x = 4)
theorem latc_215 (hC : w_CL S) (hl : cSl S) (hW : cWd S T L G) (l4 : S 158 4 = 215) (l7 : S 158 7 = kd) (l9 : S 158 9 = gk) (l10 : S 158 10 = gb) (l11 : S 158 11 = nm) (l13 : S 158 13 = es) (l14 : S 158 14 = fo) (hfo : 0 ≤ fo ∧ fo < S 48 (-1)) (hT : (T.length : Int) ≤ 8000) (hq : isO T gb) (hkd : kd = 4 ∨ kd = 6) (hgk : gk = 4 ∨ gk = 5) : wJ (pe_GA xs) wY0 M d t_XL_lookAtThing ((pe_at t_XL_lookAtThing.bl 0).getD (0, [])).2 [(0, (2, 158)), (1, (0, gb))] [] S (fun o Z => o = .inl none ∧ ((gk = 5 ∧ w_up S 49 fo (tO T gb).2.2.1 = Z) ∨ (gk = 4 ∧ w_up (w_up S 49 fo (tO T gb).2.2.1) 215 16 5 = Z))) := by
  have h35 := hl.2.1
  have h48 := hl.2.2.2
  have hlt : cLt S T := hW.2.2.2.2.1
  have hth := hW.1
  have t2 := hlt.2
  have hq1 := hq.1
  have e29 : S 129 gb = (tO T gb).2.2.1 := (c_th hth hq1.1 hq1.2).1.2.2.1
  refine wa_aload_n (n := 0) rfl ?_
  refine wb_gfi 158 rfl (wy_pr rfl) wt_158 wf_5_7 (v := kd) (l7) (fun r1 => ?_)
  refine wa_iconst ?_
  refine wa_icmpeq (w_rg0 (by omega) (by omega)) (w_rg0 (by omega) (by omega)) ⟨_, rfl⟩ (fun c2 => ?_) (fun c2 => ?_)
  · skip
    refine wa_aload_n (n := 0) rfl ?_
    refine wb_gf4 158 rfl (wy_pr rfl) wt_158 wf_5_3 (v := 47) wl_158_3 ?_
    refine wa_iconst ?_
    refine wb_aald5 47 1 rfl rfl (wy_pr rfl) wt_47 (by rw [show _ = _ from ((cl_47 hC))]; omega) wl_47_1 ?_
    refine wa_aload_n (n := 0) rfl ?_
    refine wb_gfi 158 rfl (wy_pr rfl) wt_158 wf_5_14 (v := fo) (l14) (fun r3 => ?_)
    refine wa_aload_n (n := 0) rfl ?_
    refine wb_gf4 158 rfl (wy_pr rfl) wt_158 wf_5_0 (v := 72) wl_158_0 ?_
    refine wb_gf4 72 rfl (wy_pr rfl) wt_72 wf_2_2 (v := 126) wl_72_2 ?_
    refine wa_iconst ?_
    refine wb_aald5 126 2 rfl rfl (wy_pr rfl) wt_126 (by rw [show _ = _ from ((cl_126 hC))]; omega) wl_126_2 ?_
    refine wa_iload_n (n := 1) rfl ?_
    refine wb_iald 129 rfl (wy_pr rfl) wt_129 (n := (S 127 (-1))) ((hlt.1 2 (by decide))) (by omega) (by omega) (v := (tO T gb).2.2.1) (e29) (fun r4 => ?_)
    refine wb_iast 49 rfl (wy_pr rfl) wt_49 (n := (S 48 (-1))) ((hl.2.2.1 1 (by decide))) (by omega) (by omega) ⟨(by omega), (by omega)⟩ ?_
    refine wa_aload_n (n := 0) rfl ?_
    refine wb_gfi 158 rfl (wy_pr rfl) wt_158 wf_5_9 (v := gk) ((w_up_slot (by decide)).trans (l9)) (fun r5 => ?_)
    refine wa_iconst ?_
    refine wa_icmpeq (w_rg0 (by omega) (by omega)) (w_rg0 (by omega) (by omega)) ⟨_, rfl⟩ (fun c6 => ?_) (fun c6 => ?_)
    · skip
      refine wa_return rfl ?_
      exact ⟨rfl, Or.inl ⟨by omega, rfl⟩⟩
    · skip
      refine wa_aload_n (n := 0) rfl ?_
      refine wb_gf5 158 rfl (wy_pr rfl) wt_158 wf_5_4 (v := 215) ((w_up_slot (by decide)).trans (l4)) (fun r7 => ?_)
      refine wa_iconst ?_
      refine wb_pfi 215 rfl (wy_pr rfl) wt_215 wf_8_16 (n := 16) rfl ⟨(by omega), (by omega)⟩ ?_
      refine wa_fall ⟨_, rfl⟩ ?_
      refine wa_return rfl ?_
      exact ⟨rfl, Or.inr ⟨by omega, rfl⟩⟩
  · skip
    refine wa_aload_n (n := 0) rfl ?_
    refine wb_gfi 158 rfl (wy_pr rfl) wt_158 wf_5_7 (v := kd) (l7) (fun r8 => ?_)
    refine wa_bipush (w_rg2 (by omega) (by omega)) ?_
    refine wa_icmpne (w_rg0 (by omega) (by omega)) (w_rg0 (by omega) (by omega)) ⟨_, rfl⟩ (fun c9 => ?_) (fun c9 => ?_)
    · skip
      exfalso; omega
    · skip
      refine wa_fall ⟨_, rfl⟩ ?_
      refine wa_aload_n (n := 0) rfl ?_
      refine wb_gf4 158 rfl (wy_pr rfl) wt_158 wf_5_3 (v := 47) wl_158_3 ?_
      refine wa_iconst ?_
      refine wb_aald5 47 1 rfl rfl (wy_pr rfl) wt_47 (by rw [show _ = _ from ((cl_47 hC))]; omega) wl_47_1 ?_
      refine wa_aload_n (n := 0) rfl ?_
      refine wb_gfi 158 rfl (wy_pr rfl) wt_158 wf_5_14 (v := fo) (l14) (fun r10 => ?_)
      refine wa_aload_n (n := 0) rfl ?_
      refine wb_gf4 158 rfl (wy_pr rfl) wt_158 wf_5_0 (v := 72) wl_158_0 ?_
      refine wb_gf4 72 rfl (wy_pr rfl) wt_72 wf_2_2 (v := 126) wl_72_2 ?_
      refine wa_iconst ?_
      refine wb_aald5 126 2 rfl rfl (wy_pr rfl) wt_126 (by rw [show _ = _ from ((cl_126 hC))]; omega) wl_126_2 ?_
      refine wa_iload_n (n := 1) rfl ?_
      refine wb_iald 129 rfl (wy_pr rfl) wt_129 (n := (S 127 (-1))) ((hlt.1 2 (by decide))) (by omega) (by omega) (v := (tO T gb).2.2.1) (e29) (fun r11 => ?_)
      refine wb_iast 49 rfl (wy_pr rfl) wt_49 (n := (S 48 (-1))) ((hl.2.2.1 1 (by decide))) (by omega) (by omega) ⟨(by omega), (by omega)⟩ ?_
      refine wa_aload_n (n := 0) rfl ?_
      refine wb_gfi 158 rfl (wy_pr rfl) wt_158 wf_5_9 (v := gk) ((w_up_slot (by decide)).trans (l9)) (fun r12 => ?_)
      refine wa_iconst ?_
      refine wa_icmpeq (w_rg0 (by omega) (by omega)) (w_rg0 (by omega) (by omega)) ⟨_, rfl⟩ (fun c13 => ?_) (fun c13 => ?_)
      · skip
        refine wa_return rfl ?_
        exact ⟨rfl, Or.inl ⟨by omega, rfl⟩⟩
      · skip
        refine wa_aload_n (n := 0) rfl ?_
        refine wb_gf5 158 rfl (wy_pr rfl) wt_158 wf_5_4 (v := 215) ((w_up_slot (by decide)).trans (l4)) (fun r14 => ?_)
        refine wa_iconst ?_
        refine wb_pfi 215 rfl (wy_pr rfl) wt_215 wf_8_16 (n := 16) rfl ⟨(by omega), (by omega)⟩ ?_
        refine wa_fall ⟨_, rfl⟩ ?_
        refine wa_return rfl ?_
        exact ⟨rfl, Or.inr ⟨by omega, rfl⟩⟩
theorem latn_215 (hC : w_CL S) (hl : cSl S) (hW : cWd S T L G) (l4 : S 158 4 = 215) (l7 : S 158 7 = kd) (l9 : S 158 9 = gk) (l10 : S 158 10 = gb) (l11 : S 158 11 = nm) (l13 : S 158 13 = es) (l14 : S 158 14 = fo) (hfo : 0 ≤ fo ∧ fo < S 48 (-1)) (hT : (T.length : Int) ≤ 8000) (hq : isO T gb) (hkd : kd ≠ 4 ∧ kd ≠ 6) (hnm : nm = -1) : wJ (pe_GA xs) wY0 M d t_XL_lookAtThing ((pe_at t_XL_lookAtThing.bl 0).getD (0, [])).2 [(0, (2, 158)), (1, (0, gb))] [] S (fun o Z => o = .inl none ∧ w_up S 215 16 6 = Z) := by
  have h35 := hl.2.1
  have h48 := hl.2.2.2
  have hlt : cLt S T := hW.2.2.2.2.1
  have hth := hW.1
  have t2 := hlt.2
  have hq1 := hq.1
  refine wa_aload_n (n := 0) rfl ?_
  refine wb_gfi 158 rfl (wy_pr rfl) wt_158 wf_5_7 (v := kd) (l7) (fun r1 => ?_)
  refine wa_iconst ?_
  refine wa_icmpeq (w_rg0 (by omega) (by omega)) (w_rg0 (by omega) (by omega)) ⟨_, rfl⟩ (fun c2 => ?_) (fun c2 => ?_)
  · skip
    exfalso; omega
  · skip
    refine wa_aload_n (n := 0) rfl ?_
    refine wb_gfi 158 rfl (wy_pr rfl) wt_158 wf_5_7 (v := kd) (l7) (fun r3 => ?_)
    refine wa_bipush (w_rg2 (by omega) (by omega)) ?_
    refine wa_icmpne (w_rg0 (by omega) (by omega)) (w_rg0 (by omega) (by omega)) ⟨_, rfl⟩ (fun c4 => ?_) (fun c4 => ?_)
    · skip
      refine wa_aload_n (n := 0) rfl ?_
      refine wb_gfi 158 rfl (wy_pr rfl) wt_158 wf_5_11 (v := nm) (l11) (fun r5 => ?_)
      refine wa_iconst ?_
      refine wa_icmpne (w_rg0 (by omega) (by omega)) (w_rg0 (by omega) (by omega)) ⟨_, rfl⟩ (fun c6 => ?_) (fun c6 => ?_)
      · skip
        exfalso; omega
      · skip
        refine wa_aload_n (n := 0) rfl ?_
        refine wb_gf5 158 rfl (wy_pr rfl) wt_158 wf_5_4 (v := 215) (l4) (fun r7 => ?_)
        refine wa_bipush (w_rg2 (by omega) (by omega)) ?_
        refine wb_pfi 215 rfl (wy_pr rfl) wt_215 wf_8_16 (n := 16) rfl ⟨(by omega), (by omega)⟩ ?_
        refine wa_return rfl ?_
        exact ⟨rfl, rfl⟩
    · skip
      exfalso; omega
set_option maxHeartbeats 4000000 in
theorem latg_215 {ch : Int} (hC : w_CL S) (hl : cSl S) (hW : cWd S T L G) (l4 : S 158 4 = 215) (l7 : S 158 7 = kd) (l9 : S 158 9 = gk) (l10 : S 158 10 = gb) (l11 : S 158 11 = nm) (l13 : S 158 13 = es) (l14 : S 158 14 = fo) (hfo : 0 ≤ fo ∧ fo < S 48 (-1)) (hT : (T.length : Int) ≤ 8000) (hq : isO T gb) (hsw : cSw S T H) (hw : wSh T H) (hnm : 0 ≤ nm ∧ nm ≤ 100000) (hne : nmE kd nms nm) (h11 : S 72 11 = ch) (hch : 0 ≤ ch ∧ ch ≤ 10000000) (hbl : blE 0 fo S) (hkd : kd = 0 ∨ kd = 2 ∨ kd = 5) : wJ (pe_GA xs) wY0 M (d + 2) t_XL_lookAtThing ((pe_at t_XL_lookAtThing.bl 0).getD (0, [])).2 [(0, (2, 158)), (1, (0, gb))] [] S (fun o Z => o = .inl none ∧ cEc Z kd nms (gtE T H kd nm gb ch) fo ∧ ∀ (j : Nat) (x : Int), ¬ (48 ≤ j ∧ j ≤ 56 ∧ x = fo) → Z j x = S j x) := by
  have h35 := hl.2.1
  have h48 := hl.2.2.2
  have hlt : cLt S T := hW.2.2.2.2.1
  have hth := hW.1
  have t2 := hlt.2
  have hq1 := hq.1
  have e28 : S 128 gb = (tO T gb).2.1 := (c_th hth hq1.1 hq1.2).1.2.1
  have hs8 := c_hs hsw.1 hth hw gb hq1.1 hq1.2 hq
  rw [e28] at hs8
  obtain ⟨-, hz2, -, hz4⟩ := hsw.2.1
  obtain ⟨sh, hsh⟩ : ∃ i : Int, i = (tO T gb).2.1 := ⟨_, rfl⟩
  rw [← hsh] at e28 hs8
  obtain ⟨⟨q1, q2, q3, q4, q5⟩, q6, q7, q8, q9⟩ := id hbl
  obtain ⟨up, hup⟩ : ∃ i : Int, i = aUp T H nm gb := ⟨_, rfl⟩
  have hur := aUp_rg (nm := nm) hw hq
  rw [← hup] at hur
  have hub : -1 ≤ up ∧ up < (T.length : Int) := by rcases hur with z | z; omega; have := z.1.1; omega
  obtain ⟨i3, hi3⟩ : ∃ i : Int, i = aIx T nm up := ⟨_, rfl⟩
  have hr3 := aIx_rg (T := T) (nm := nm) (k := up)
  rw [← hi3] at hr3
  have hl3 : up ≠ -1 → i3 < 100 ∧ i3 ≠ -1 := fun z => by
    have y := hur.resolve_left z
    have := (hw.2.2.2.1 up y.1).2
    rw [← hi3] at y
    omega
  have eE : gtE T H kd nm gb ch = (0, sh, enE kd nm, (if up = gb then -1 else up), (if up = -1 then -1 else i3), -1, ch, 0, 0) := by
    unfold gtE; rw [hi3, hup, hsh]
  have eN : cNm kd nms (gtE T H kd nm gb ch) = nm := cNm_e rfl (by omega) hne rfl
  have eS : eSn kd (gtE T H kd nm gb ch) = (if up = gb then -1 else ch) := by
    rw [eE]
    unfold eSn
    by_cases c : up = gb
    · rw [if_pos c, if_pos c]
      refine if_neg (fun z => z.2.2 ⟨?_, rfl⟩)
      show 0 ≤ (if up = -1 then -1 else i3)
      rw [if_neg (by omega)]
      have := hl3 (by omega)
      omega
    · rw [if_neg c, if_neg c]
      refine if_pos ⟨rfl, hkd, fun z => ?_⟩
      have z1 : 0 ≤ (if up = -1 then -1 else i3) := z.1
      have z2 : up = -1 := z.2
      rw [if_pos z2] at z1
      omega
  have eL : cLo kd (gtE T H kd nm gb ch) = -1 ∧ cHi kd (gtE T H kd nm gb ch) = -1 := ⟨if_neg (fun z => by rcases z.1 with y | y; exact absurd y (show ¬ ((0 : Int) = 1) by decide); exact absurd y (show ¬ ((0 : Int) = 2) by decide)), if_neg (fun z => by rcases z.1 with y | y; exact absurd y (show ¬ ((0 : Int) = 1) by decide); exact absurd y (show ¬ ((0 : Int) = 2) by decide))⟩
  refine wa_aload_n (n := 0) rfl ?_
  refine wb_gfi 158 rfl (wy_pr rfl) wt_158 wf_5_7 (v := kd) (l7) (fun r1 => ?_)
  refine wa_iconst ?_
  refine wa_icmpeq (w_rg0 (by omega) (by omega)) (w_rg0 (by omega) (by omega)) ⟨_, rfl⟩ (fun c2 => ?_) (fun c2 => ?_)
  · skip
    exfalso; omega
  · skip
    refine wa_aload_n (n := 0) rfl ?_
    refine wb_gfi 158 rfl (wy_pr rfl) wt_158 wf_5_7 (v := kd) (l7) (fun r3 => ?_)
    refine wa_bipush (w_rg2 (by omega) (by omega)) ?_
    refine wa_icmpne (w_rg0 (by omega) (by omega)) (w_rg0 (by omega) (by omega)) ⟨_, rfl⟩ (fun c4 => ?_) (fun c4 => ?_)
    · skip
      refine wa_aload_n (n := 0) rfl ?_
      refine wb_gfi 158 rfl (wy_pr rfl) wt_158 wf_5_11 (v := nm) (l11) (fun r5 => ?_)
      refine wa_iconst ?_
      refine wa_icmpne (w_rg0 (by omega) (by omega)) (w_rg0 (by omega) (by omega)) ⟨_, rfl⟩ (fun c6 => ?_) (fun c6 => ?_)
      · skip
        refine wa_aload_n (n := 0) rfl ?_
        refine wb_gf4 158 rfl (wy_pr rfl) wt_158 wf_5_0 (v := 72) wl_158_0 ?_
        refine wb_gf4 72 rfl (wy_pr rfl) wt_72 wf_2_2 (v := 126) wl_72_2 ?_
        refine wa_iconst ?_
        refine wb_aald5 126 1 rfl rfl (wy_pr rfl) wt_126 (by rw [show _ = _ from ((cl_126 hC))]; omega) wl_126_1 ?_
        refine wa_iload_n (n := 1) rfl ?_
        refine wb_iald 128 rfl (wy_pr rfl) wt_128 (n := (S 127 (-1))) ((hlt.1 1 (by decide))) (by omega) (by omega) (v := sh) (e28) (fun r7 => ?_)
        refine wa_istore_n (n := 2) rfl ?_
        refine wa_aload_n (n := 0) rfl ?_
        refine wb_gf4 158 rfl (wy_pr rfl) wt_158 wf_5_3 (v := 47) wl_158_3 ?_
        refine wa_iconst ?_
        refine wb_aald5 47 5 rfl rfl (wy_pr rfl) wt_47 (by rw [show _ = _ from ((cl_47 hC))]; omega) wl_47_5 ?_
        refine wa_aload_n (n := 0) rfl ?_
        refine wb_gfi 158 rfl (wy_pr rfl) wt_158 wf_5_14 (v := fo) (l14) (fun r8 => ?_)
        refine wa_aload_n (n := 0) rfl ?_
        refine wb_gfi 158 rfl (wy_pr rfl) wt_158 wf_5_11 (v := nm) (l11) (fun r9 => ?_)
        refine wb_iast 53 rfl (wy_pr rfl) wt_53 (n := (S 48 (-1))) ((hl.2.2.1 5 (by decide))) (by omega) (by omega) ⟨(by omega), (by omega)⟩ ?_
        refine wa_aload_n (n := 0) rfl ?_
        refine wb_gf4 158 rfl (wy_pr rfl) wt_158 wf_5_3 (v := 47) wl_158_3 ?_
        refine wa_iconst ?_
        refine wb_aald5 47 1 rfl rfl (wy_pr rfl) wt_47 (by rw [show _ = _ from ((w_up_slot (by decide)).trans ((cl_47 hC)))]; omega) wl_47_1 ?_
        refine wa_aload_n (n := 0) rfl ?_
        refine wb_gfi 158 rfl (wy_pr rfl) wt_158 wf_5_14 (v := fo) ((w_up_slot (by decide)).trans (l14)) (fun r10 => ?_)
        refine wa_iload_n (n := 2) rfl ?_
        refine wb_iast 49 rfl (wy_pr rfl) wt_49 (n := (S 48 (-1))) ((w_up_slot (by decide)).trans ((hl.2.2.1 1 (by decide)))) (by omega) (by omega) ⟨(by omega), (by omega)⟩ ?_
        refine wa_aload_n (n := 0) rfl ?_
        refine wb_gfi 158 rfl (wy_pr rfl) wt_158 wf_5_7 (v := kd) ((w_up_slot (by decide)).trans ((w_up_slot (by decide)).trans (l7))) (fun r11 => ?_)
        refine wa_iconst ?_
        refine wa_icmpeq (w_rg0 (by omega) (by omega)) (w_rg0 (by omega) (by omega)) ⟨_, rfl⟩ (fun c12 => ?_) (fun c12 => ?_)
        · skip
          exfalso; omega
        · skip
          refine wa_aload_n (n := 0) rfl ?_
          refine wb_gfi 158 rfl (wy_pr rfl) wt_158 wf_5_7 (v := kd) ((w_up_slot (by decide)).trans ((w_up_slot (by decide)).trans (l7))) (fun r13 => ?_)
          refine wa_iconst ?_
          refine wa_icmpeq (w_rg0 (by omega) (by omega)) (w_rg0 (by omega) (by omega)) ⟨_, rfl⟩ (fun c14 => ?_) (fun c14 => ?_)
          · skip
            exfalso; omega
          · skip
            refine wa_aload_n (n := 0) rfl ?_
            refine wb_gf4 158 rfl (wy_pr rfl) wt_158 wf_5_0 (v := 72) wl_158_0 ?_
            refine wa_iload_n (n := 1) rfl ?_
            refine wa_aload_n (n := 0) rfl ?_
            refine wb_gfi 158 rfl (wy_pr rfl) wt_158 wf_5_11 (v := nm) ((w_up_slot (by decide)).trans ((w_up_slot (by decide)).trans (l11))) (fun r15 => ?_)
            have fX : ∀ (j : Nat) (x : Int), (j < 48 ∨ 56 < j) → (w_up (w_up S 53 fo nm) 49 fo sh) j x = S j x := (fun j x hj => ((w_up_no (by omega)).trans (w_up_no (by omega))))
            have hC2 : w_CL (w_up (w_up S 53 fo nm) 49 fo sh) := w_CL_up (w_CL_up (hC) hfo.1) hfo.1
            have hsw2 : cSw (w_up (w_up S 53 fo nm) 49 fo sh) T H := cSw_ag hsw (fun j x hj => fX j x (by omega))
            have hW2 : cWd (w_up (w_up S 53 fo nm) 49 fo sh) T L G := cWd_ag hW (cTx_of (fX 2 1 (by first | decide | omega)) (fun x => fX 3 x (by first | decide | omega))) (fun j x hj => fX j x (by unfold cWo at hj; omega))
            refine wa_cv 72 rfl (wy_pr rfl) wt_72 (M2 := fun _ => False) rfl at_XH_holderOf ⟨_, rfl⟩ rfl rfl ⟨trivial, (Or.inr ⟨wy_pr rfl, fun q => q⟩), trivial, trivial⟩ trivial (fun _ _ q => False.elim q) (wJ_mono (c_ho (S := (w_up (w_up S 53 fo nm) 49 fo sh)) hC2 hsw2 hW2.1 hW2.2.2.2.2.1 hw hq ⟨by omega, by omega⟩) (fun o Z hz => (⟨hz.1, by rw [hup]; exact hz.2⟩ : (w_up (w_up S 53 fo nm) 49 fo sh) = Z ∧ o = .inl (some (0, up))))) (fun oq16 Sq16 hp17 q16 => ?_)
            rcases q16 with ⟨rfl, rfl⟩
            show wJ _ _ _ _ _ _ _ _ _ _
            refine wa_istore_n (n := 3) rfl ?_
            refine wa_fall ⟨_, rfl⟩ ?_
            refine wa_iload_n (n := 3) rfl ?_
            refine wa_iconst ?_
            refine wa_icmpeq (w_rg0 (by omega) (by omega)) (w_rg0 (by omega) (by omega)) ⟨_, rfl⟩ (fun c18 => ?_) (fun c18 => ?_)
            · skip
              refine wa_iload_n (n := 3) rfl ?_
              refine wa_iload_n (n := 1) rfl ?_
              refine wa_icmpeq (w_rg0 (by omega) (by omega)) (w_rg0 (by omega) (by omega)) ⟨_, rfl⟩ (fun c19 => ?_) (fun c19 => ?_)
              · skip
                refine wa_return rfl ?_
                refine ⟨rfl, ?_, fun j x hj => ((w_up_no (by omega)).trans (w_up_no (by omega)))⟩
                rw [eE] at eN eS eL ⊢
                refine ⟨⟨(((w_up_slot (by first | decide | omega)).trans (w_up_slot (by first | decide | omega))) : (w_up (w_up S 53 fo nm) 49 fo sh) 48 fo = (S 48 fo)).trans ?_, ((w_up_same _ _ _ _) : (w_up (w_up S 53 fo nm) 49 fo sh) 49 fo = sh).trans ?_, (((w_up_slot (by first | decide | omega)).trans (w_up_slot (by first | decide | omega))) : (w_up (w_up S 53 fo nm) 49 fo sh) 50 fo = (S 50 fo)).trans ?_, (((w_up_slot (by first | decide | omega)).trans (w_up_slot (by first | decide | omega))) : (w_up (w_up S 53 fo nm) 49 fo sh) 51 fo = (S 51 fo)).trans ?_, (((w_up_slot (by first | decide | omega)).trans (w_up_slot (by first | decide | omega))) : (w_up (w_up S 53 fo nm) 49 fo sh) 52 fo = (S 52 fo)).trans ?_⟩, ((((w_up_slot (by first | decide | omega)).trans (w_up_same _ _ _ _)) : (w_up (w_up S 53 fo nm) 49 fo sh) 53 fo = nm).trans ?_).trans eN.symm, ((((w_up_slot (by first | decide | omega)).trans (w_up_slot (by first | decide | omega))) : (w_up (w_up S 53 fo nm) 49 fo sh) 54 fo = (S 54 fo)).trans ?_).trans eS.symm, ((((w_up_slot (by first | decide | omega)).trans (w_up_slot (by first | decide | omega))) : (w_up (w_up S 53 fo nm) 49 fo sh) 55 fo = (S 55 fo)).trans ?_).trans eL.1.symm, ((((w_up_slot (by first | decide | omega)).trans (w_up_slot (by first | decide | omega))) : (w_up (w_up S 53 fo nm) 49 fo sh) 56 fo = (S 56 fo)).trans ?_).trans eL.2.symm⟩
                all_goals first | rfl | exact q1 | exact q3 | exact q4 | exact q5 | exact q7 | exact q8 | exact q9 | exact (if_pos (by omega)).symm | exact (if_neg (by omega)).symm | exact q4.trans (if_pos (by omega)).symm | exact q3.trans (if_pos (by omega)).symm | exact q7.trans (if_pos (by omega)).symm
              · skip
                refine wa_aload_n (n := 0) rfl ?_
                refine wb_gf4 158 rfl (wy_pr rfl) wt_158 wf_5_3 (v := 47) wl_158_3 ?_
                refine wa_iconst ?_
                refine wb_aald5 47 2 rfl rfl (wy_pr rfl) wt_47 (by rw [show _ = _ from ((w_up_slot (by decide)).trans ((w_up_slot (by decide)).trans ((cl_47 hC))))]; omega) wl_47_2 ?_
                refine wa_aload_n (n := 0) rfl ?_
                refine wb_gfi 158 rfl (wy_pr rfl) wt_158 wf_5_14 (v := fo) ((w_up_slot (by decide)).trans ((w_up_slot (by decide)).trans (l14))) (fun r20 => ?_)
                refine wa_iload_n (n := 3) rfl ?_
                refine wb_iast 50 rfl (wy_pr rfl) wt_50 (n := (S 48 (-1))) ((w_up_slot (by decide)).trans ((w_up_slot (by decide)).trans ((hl.2.2.1 2 (by decide))))) (by omega) (by omega) ⟨(by omega), (by omega)⟩ ?_
                refine wa_aload_n (n := 0) rfl ?_
                refine wb_gf4 158 rfl (wy_pr rfl) wt_158 wf_5_3 (v := 47) wl_158_3 ?_
                refine wa_bipush (w_rg2 (by omega) (by omega)) ?_
                refine wb_aald5 47 6 rfl rfl (wy_pr rfl) wt_47 (by rw [show _ = _ from ((w_up_slot (by decide)).trans ((w_up_slot (by decide)).trans ((w_up_slot (by decide)).trans ((cl_47 hC)))))]; omega) wl_47_6 ?_
                refine wa_aload_n (n := 0) rfl ?_
                refine wb_gfi 158 rfl (wy_pr rfl) wt_158 wf_5_14 (v := fo) ((w_up_slot (by decide)).trans ((w_up_slot (by decide)).trans ((w_up_slot (by decide)).trans (l14)))) (fun r21 => ?_)
                refine wa_aload_n (n := 0) rfl ?_
                refine wb_gf4 158 rfl (wy_pr rfl) wt_158 wf_5_0 (v := 72) wl_158_0 ?_
                refine wb_gfi 72 rfl (wy_pr rfl) wt_72 wf_2_11 (v := ch) ((w_up_slot (by decide)).trans ((w_up_slot (by decide)).trans ((w_up_slot (by decide)).trans (h11)))) (fun r22 => ?_)
                refine wb_iast 54 rfl (wy_pr rfl) wt_54 (n := (S 48 (-1))) ((w_up_slot (by decide)).trans ((w_up_slot (by decide)).trans ((w_up_slot (by decide)).trans ((hl.2.2.1 6 (by decide)))))) (by omega) (by omega) ⟨(by omega), (by omega)⟩ ?_
                refine wa_fall ⟨_, rfl⟩ ?_
                refine wa_return rfl ?_
                refine ⟨rfl, ?_, fun j x hj => ((w_up_no (by omega)).trans ((w_up_no (by omega)).trans ((w_up_no (by omega)).trans (w_up_no (by omega)))))⟩
                rw [eE] at eN eS eL ⊢
                refine ⟨⟨(((w_up_slot (by first | decide | omega)).trans ((w_up_slot (by first | decide | omega)).trans ((w_up_slot (by first | decide | omega)).trans (w_up_slot (by first | decide | omega))))) : (w_up (w_up (w_up (w_up S 53 fo nm) 49 fo sh) 50 fo up) 54 fo ch) 48 fo = (S 48 fo)).trans ?_, (((w_up_slot (by first | decide | omega)).trans ((w_up_slot (by first | decide | omega)).trans (w_up_same _ _ _ _))) : (w_up (w_up (w_up (w_up S 53 fo nm) 49 fo sh) 50 fo up) 54 fo ch) 49 fo = sh).trans ?_, (((w_up_slot (by first | decide | omega)).trans (w_up_same _ _ _ _)) : (w_up (w_up (w_up (w_up S 53 fo nm) 49 fo sh) 50 fo up) 54 fo ch) 50 fo = up).trans ?_, (((w_up_slot (by first | decide | omega)).trans ((w_up_slot (by first | decide | omega)).trans ((w_up_slot (by first | decide | omega)).trans (w_up_slot (by first | decide | omega))))) : (w_up (w_up (w_up (w_up S 53 fo nm) 49 fo sh) 50 fo up) 54 fo ch) 51 fo = (S 51 fo)).trans ?_, (((w_up_slot (by first | decide | omega)).trans ((w_up_slot (by first | decide | omega)).trans ((w_up_slot (by first | decide | omega)).trans (w_up_slot (by first | decide | omega))))) : (w_up (w_up (w_up (w_up S 53 fo nm) 49 fo sh) 50 fo up) 54 fo ch) 52 fo = (S 52 fo)).trans ?_⟩, ((((w_up_slot (by first | decide | omega)).trans ((w_up_slot (by first | decide | omega)).trans ((w_up_slot (by first | decide | omega)).trans (w_up_same _ _ _ _)))) : (w_up (w_up (w_up (w_up S 53 fo nm) 49 fo sh) 50 fo up) 54 fo ch) 53 fo = nm).trans ?_).trans eN.symm, (((w_up_same _ _ _ _) : (w_up (w_up (w_up (w_up S 53 fo nm) 49 fo sh) 50 fo up) 54 fo ch) 54 fo = ch).trans ?_).trans eS.symm, ((((w_up_slot (by first | decide | omega)).trans ((w_up_slot (by first | decide | omega)).trans ((w_up_slot (by first | decide | omega)).trans (w_up_slot (by first | decide | omega))))) : (w_up (w_up (w_up (w_up S 53 fo nm) 49 fo sh) 50 fo up) 54 fo ch) 55 fo = (S 55 fo)).trans ?_).trans eL.1.symm, ((((w_up_slot (by first | decide | omega)).trans ((w_up_slot (by first | decide | omega)).trans ((w_up_slot (by first | decide | omega)).trans (w_up_slot (by first | decide | omega))))) : (w_up (w_up (w_up (w_up S 53 fo nm) 49 fo sh) 50 fo up) 54 fo ch) 56 fo = (S 56 fo)).trans ?_).trans eL.2.symm⟩
                all_goals first | rfl | exact q1 | exact q3 | exact q4 | exact q5 | exact q7 | exact q8 | exact q9 | exact (if_pos (by omega)).symm | exact (if_neg (by omega)).symm | exact q4.trans (if_pos (by omega)).symm | exact q3.trans (if_pos (by omega)).symm | exact q7.trans (if_pos (by omega)).symm
            · skip
              have hl3b := hl3 (by omega)
              refine wa_aload_n (n := 0) rfl ?_
              refine wb_gf4 158 rfl (wy_pr rfl) wt_158 wf_5_3 (v := 47) wl_158_3 ?_
              refine wa_iconst ?_
              refine wb_aald5 47 3 rfl rfl (wy_pr rfl) wt_47 (by rw [show _ = _ from ((w_up_slot (by decide)).trans ((w_up_slot (by decide)).trans ((cl_47 hC))))]; omega) wl_47_3 ?_
              refine wa_aload_n (n := 0) rfl ?_
              refine wb_gfi 158 rfl (wy_pr rfl) wt_158 wf_5_14 (v := fo) ((w_up_slot (by decide)).trans ((w_up_slot (by decide)).trans (l14))) (fun r23 => ?_)
              refine wa_aload_n (n := 0) rfl ?_
              refine wb_gf4 158 rfl (wy_pr rfl) wt_158 wf_5_0 (v := 72) wl_158_0 ?_
              refine wa_aload_n (n := 0) rfl ?_
              refine wb_gf4 158 rfl (wy_pr rfl) wt_158 wf_5_0 (v := 72) wl_158_0 ?_
              refine wb_gf4 72 rfl (wy_pr rfl) wt_72 wf_2_2 (v := 126) wl_72_2 ?_
              refine wa_iconst ?_
              refine wb_aald5 126 1 rfl rfl (wy_pr rfl) wt_126 (by rw [show _ = _ from ((w_up_slot (by decide)).trans ((w_up_slot (by decide)).trans ((cl_126 hC))))]; omega) wl_126_1 ?_
              refine wa_iload_n (n := 3) rfl ?_
              refine wb_iald 128 rfl (wy_pr rfl) wt_128 (n := (S 127 (-1))) ((w_up_slot (by decide)).trans ((w_up_slot (by decide)).trans ((hlt.1 1 (by decide))))) (by omega) (by omega) (v := (S 128 up)) ((w_up_slot (by decide)).trans (w_up_slot (by decide))) (fun r24 => ?_)
              refine wa_aload_n (n := 0) rfl ?_
              refine wb_gfi 158 rfl (wy_pr rfl) wt_158 wf_5_11 (v := nm) ((w_up_slot (by decide)).trans ((w_up_slot (by decide)).trans (l11))) (fun r25 => ?_)
              refine wa_cv 72 rfl (wy_pr rfl) wt_72 (M2 := fun _ => False) rfl at_XH_indexIn ⟨_, rfl⟩ rfl rfl ⟨trivial, trivial, (Or.inr ⟨wy_pr rfl, fun q => q⟩), trivial, trivial⟩ ⟨trivial, (Or.inr ⟨wy_pr rfl, fun q => q⟩), trivial⟩ (fun _ _ q => False.elim q) (wJ_mono (c_ixo (S := (w_up (w_up S 53 fo nm) 49 fo sh)) (k := up) hC2 hsw2 hW2.1 hw (hur.resolve_left (by omega)).1 (fX 128 up (by decide)).symm ⟨by omega, by omega⟩) (fun o Z hz => (⟨hz.1, by rw [hi3]; exact hz.2⟩ : (w_up (w_up S 53 fo nm) 49 fo sh) = Z ∧ o = .inl (some (0, i3))))) (fun oq26 Sq26 hp27 q26 => ?_)
              rcases q26 with ⟨rfl, rfl⟩
              show wJ _ _ _ _ _ _ _ _ _ _
              refine wb_iast 51 rfl (wy_pr rfl) wt_51 (n := (S 48 (-1))) ((w_up_slot (by decide)).trans ((w_up_slot (by decide)).trans ((hl.2.2.1 3 (by decide))))) (by omega) (by omega) ⟨(by omega), (by omega)⟩ ?_
              refine wa_fall ⟨_, rfl⟩ ?_
              refine wa_iload_n (n := 3) rfl ?_
              refine wa_iload_n (n := 1) rfl ?_
              refine wa_icmpeq (w_rg0 (by omega) (by omega)) (w_rg0 (by omega) (by omega)) ⟨_, rfl⟩ (fun c28 => ?_) (fun c28 => ?_)
              · skip
                refine wa_return rfl ?_
                refine ⟨rfl, ?_, fun j x hj => ((w_up_no (by omega)).trans ((w_up_no (by omega)).trans (w_up_no (by omega))))⟩
                rw [eE] at eN eS eL ⊢
                refine ⟨⟨(((w_up_slot (by first | decide | omega)).trans ((w_up_slot (by first | decide | omega)).trans (w_up_slot (by first | decide | omega)))) : (w_up (w_up (w_up S 53 fo nm) 49 fo sh) 51 fo i3) 48 fo = (S 48 fo)).trans ?_, (((w_up_slot (by first | decide | omega)).trans (w_up_same _ _ _ _)) : (w_up (w_up (w_up S 53 fo nm) 49 fo sh) 51 fo i3) 49 fo = sh).trans ?_, (((w_up_slot (by first | decide | omega)).trans ((w_up_slot (by first | decide | omega)).trans (w_up_slot (by first | decide | omega)))) : (w_up (w_up (w_up S 53 fo nm) 49 fo sh) 51 fo i3) 50 fo = (S 50 fo)).trans ?_, ((w_up_same _ _ _ _) : (w_up (w_up (w_up S 53 fo nm) 49 fo sh) 51 fo i3) 51 fo = i3).trans ?_, (((w_up_slot (by first | decide | omega)).trans ((w_up_slot (by first | decide | omega)).trans (w_up_slot (by first | decide | omega)))) : (w_up (w_up (w_up S 53 fo nm) 49 fo sh) 51 fo i3) 52 fo = (S 52 fo)).trans ?_⟩, ((((w_up_slot (by first | decide | omega)).trans ((w_up_slot (by first | decide | omega)).trans (w_up_same _ _ _ _))) : (w_up (w_up (w_up S 53 fo nm) 49 fo sh) 51 fo i3) 53 fo = nm).trans ?_).trans eN.symm, ((((w_up_slot (by first | decide | omega)).trans ((w_up_slot (by first | decide | omega)).trans (w_up_slot (by first | decide | omega)))) : (w_up (w_up (w_up S 53 fo nm) 49 fo sh) 51 fo i3) 54 fo = (S 54 fo)).trans ?_).trans eS.symm, ((((w_up_slot (by first | decide | omega)).trans ((w_up_slot (by first | decide | omega)).trans (w_up_slot (by first | decide | omega)))) : (w_up (w_up (w_up S 53 fo nm) 49 fo sh) 51 fo i3) 55 fo = (S 55 fo)).trans ?_).trans eL.1.symm, ((((w_up_slot (by first | decide | omega)).trans ((w_up_slot (by first | decide | omega)).trans (w_up_slot (by first | decide | omega)))) : (w_up (w_up (w_up S 53 fo nm) 49 fo sh) 51 fo i3) 56 fo = (S 56 fo)).trans ?_).trans eL.2.symm⟩
                all_goals first | rfl | exact q1 | exact q3 | exact q4 | exact q5 | exact q7 | exact q8 | exact q9 | exact (if_pos (by omega)).symm | exact (if_neg (by omega)).symm | exact q4.trans (if_pos (by omega)).symm | exact q3.trans (if_pos (by omega)).symm | exact q7.trans (if_pos (by omega)).symm
              · skip
                refine wa_aload_n (n := 0) rfl ?_
                refine wb_gf4 158 rfl (wy_pr rfl) wt_158 wf_5_3 (v := 47) wl_158_3 ?_
                refine wa_iconst ?_
                refine wb_aald5 47 2 rfl rfl (wy_pr rfl) wt_47 (by rw [show _ = _ from ((w_up_slot (by decide)).trans ((w_up_slot (by decide)).trans ((w_up_slot (by decide)).trans ((cl_47 hC)))))]; omega) wl_47_2 ?_
                refine wa_aload_n (n := 0) rfl ?_
                refine wb_gfi 158 rfl (wy_pr rfl) wt_158 wf_5_14 (v := fo) ((w_up_slot (by decide)).trans ((w_up_slot (by decide)).trans ((w_up_slot (by decide)).trans (l14)))) (fun r29 => ?_)
                refine wa_iload_n (n := 3) rfl ?_
                refine wb_iast 50 rfl (wy_pr rfl) wt_50 (n := (S 48 (-1))) ((w_up_slot (by decide)).trans ((w_up_slot (by decide)).trans ((w_up_slot (by decide)).trans ((hl.2.2.1 2 (by decide)))))) (by omega) (by omega) ⟨(by omega), (by omega)⟩ ?_
                refine wa_aload_n (n := 0) rfl ?_
                refine wb_gf4 158 rfl (wy_pr rfl) wt_158 wf_5_3 (v := 47) wl_158_3 ?_
                refine wa_bipush (w_rg2 (by omega) (by omega)) ?_
                refine wb_aald5 47 6 rfl rfl (wy_pr rfl) wt_47 (by rw [show _ = _ from ((w_up_slot (by decide)).trans ((w_up_slot (by decide)).trans ((w_up_slot (by decide)).trans ((w_up_slot (by decide)).trans ((cl_47 hC))))))]; omega) wl_47_6 ?_
                refine wa_aload_n (n := 0) rfl ?_
                refine wb_gfi 158 rfl (wy_pr rfl) wt_158 wf_5_14 (v := fo) ((w_up_slot (by decide)).trans ((w_up_slot (by decide)).trans ((w_up_slot (by decide)).trans ((w_up_slot (by decide)).trans (l14))))) (fun r30 => ?_)
                refine wa_aload_n (n := 0) rfl ?_
                refine wb_gf4 158 rfl (wy_pr rfl) wt_158 wf_5_0 (v := 72) wl_158_0 ?_
                refine wb_gfi 72 rfl (wy_pr rfl) wt_72 wf_2_11 (v := ch) ((w_up_slot (by decide)).trans ((w_up_slot (by decide)).trans ((w_up_slot (by decide)).trans ((w_up_slot (by decide)).trans (h11))))) (fun r31 => ?_)
                refine wb_iast 54 rfl (wy_pr rfl) wt_54 (n := (S 48 (-1))) ((w_up_slot (by decide)).trans ((w_up_slot (by decide)).trans ((w_up_slot (by decide)).trans ((w_up_slot (by decide)).trans ((hl.2.2.1 6 (by decide))))))) (by omega) (by omega) ⟨(by omega), (by omega)⟩ ?_
                refine wa_fall ⟨_, rfl⟩ ?_
                refine wa_return rfl ?_
                refine ⟨rfl, ?_, fun j x hj => ((w_up_no (by omega)).trans ((w_up_no (by omega)).trans ((w_up_no (by omega)).trans ((w_up_no (by omega)).trans (w_up_no (by omega))))))⟩
                rw [eE] at eN eS eL ⊢
                refine ⟨⟨(((w_up_slot (by first | decide | omega)).trans ((w_up_slot (by first | decide | omega)).trans ((w_up_slot (by first | decide | omega)).trans ((w_up_slot (by first | decide | omega)).trans (w_up_slot (by first | decide | omega)))))) : (w_up (w_up (w_up (w_up (w_up S 53 fo nm) 49 fo sh) 51 fo i3) 50 fo up) 54 fo ch) 48 fo = (S 48 fo)).trans ?_, (((w_up_slot (by first | decide | omega)).trans ((w_up_slot (by first | decide | omega)).trans ((w_up_slot (by first | decide | omega)).trans (w_up_same _ _ _ _)))) : (w_up (w_up (w_up (w_up (w_up S 53 fo nm) 49 fo sh) 51 fo i3) 50 fo up) 54 fo ch) 49 fo = sh).trans ?_, (((w_up_slot (by first | decide | omega)).trans (w_up_same _ _ _ _)) : (w_up (w_up (w_up (w_up (w_up S 53 fo nm) 49 fo sh) 51 fo i3) 50 fo up) 54 fo ch) 50 fo = up).trans ?_, (((w_up_slot (by first | decide | omega)).trans ((w_up_slot (by first | decide | omega)).trans (w_up_same _ _ _ _))) : (w_up (w_up (w_up (w_up (w_up S 53 fo nm) 49 fo sh) 51 fo i3) 50 fo up) 54 fo ch) 51 fo = i3).trans ?_, (((w_up_slot (by first | decide | omega)).trans ((w_up_slot (by first | decide | omega)).trans ((w_up_slot (by first | decide | omega)).trans ((w_up_slot (by first | decide | omega)).trans (w_up_slot (by first | decide | omega)))))) : (w_up (w_up (w_up (w_up (w_up S 53 fo nm) 49 fo sh) 51 fo i3) 50 fo up) 54 fo ch) 52 fo = (S 52 fo)).trans ?_⟩, ((((w_up_slot (by first | decide | omega)).trans ((w_up_slot (by first | decide | omega)).trans ((w_up_slot (by first | decide | omega)).trans ((w_up_slot (by first | decide | omega)).trans (w_up_same _ _ _ _))))) : (w_up (w_up (w_up (w_up (w_up S 53 fo nm) 49 fo sh) 51 fo i3) 50 fo up) 54 fo ch) 53 fo = nm).trans ?_).trans eN.symm, (((w_up_same _ _ _ _) : (w_up (w_up (w_up (w_up (w_up S 53 fo nm) 49 fo sh) 51 fo i3) 50 fo up) 54 fo ch) 54 fo = ch).trans ?_).trans eS.symm, ((((w_up_slot (by first | decide | omega)).trans ((w_up_slot (by first | decide | omega)).trans ((w_up_slot (by first | decide | omega)).trans ((w_up_slot (by first | decide | omega)).trans (w_up_slot (by first | decide | omega)))))) : (w_up (w_up (w_up (w_up (w_up S 53 fo nm) 49 fo sh) 51 fo i3) 50 fo up) 54 fo ch) 55 fo = (S 55 fo)).trans ?_).trans eL.1.symm, ((((w_up_slot (by first | decide | omega)).trans ((w_up_slot (by first | decide | omega)).trans ((w_up_slot (by first | decide | omega)).trans ((w_up_slot (by first | decide | omega)).trans (w_up_slot (by first | decide | omega)))))) : (w_up (w_up (w_up (w_up (w_up S 53 fo nm) 49 fo sh) 51 fo i3) 50 fo up) 54 fo ch) 56 fo = (S 56 fo)).trans ?_).trans eL.2.symm⟩
                all_goals first | rfl | exact q1 | exact q3 | exact q4 | exact q5 | exact q7 | exact q8 | exact q9 | exact (if_pos (by omega)).symm | exact (if_neg (by omega)).symm | exact q4.trans (if_pos (by omega)).symm | exact q3.trans (if_pos (by omega)).symm | exact q7.trans (if_pos (by omega)).symm
      · skip
        exfalso; omega
    · skip
      exfalso; omega
set_option maxHeartbeats 4000000 in
theorem lats_215 {ch r0 : Int} (hC : w_CL S) (hl : cSl S) (hW : cWd S T L G) (l4 : S 158 4 = 215) (l7 : S 158 7 = kd) (l9 : S 158 9 = gk) (l10 : S 158 10 = gb) (l11 : S 158 11 = nm) (l13 : S 158 13 = es) (l14 : S 158 14 = fo) (hfo : 0 ≤ fo ∧ fo < S 48 (-1)) (hT : (T.length : Int) ≤ 8000) (hq : isO T gb) (hsw : cSw S T H) (hw : wSh T H) (hnm : 0 ≤ nm ∧ nm ≤ 100000) (hne : nmE kd nms nm) (h11 : S 72 11 = ch) (hch : 0 ≤ ch ∧ ch ≤ 10000000) (hbl : blE 0 fo S) (hkd : kd = 1 ∨ kd = 3) (hI : gI S) (hx1 : pe_at (pe_GA xs).xs 1 = some (1, tx_1)) (hu : 0 ≤ S 150 4 ∧ S 150 4 ≤ 4000) (hr : r0 = aFs (tO T gb).2.1 (qPr H (tO T gb).2.1) nm H 0) : wJ (pe_GA xs) wY0 (mS [144, 145, 146, 147, 148]) (d + 4) t_XL_lookAtThing ((pe_at t_XL_lookAtThing.bl 0).getD (0, [])).2 [(0, (2, 158)), (1, (0, gb))] [] S (fun o Z => o = .inl none ∧ ((aIx T nm gb ≠ -1 ∧ cEc Z kd nms (stE T kd nm gb ch (-1)) fo ∧ ∀ (j : Nat) (x : Int), ¬ (48 ≤ j ∧ j ≤ 56 ∧ x = fo) → Z j x = S j x) ∨ (aIx T nm gb = -1 ∧ 0 ≤ r0 ∧ cEc Z kd nms (stE T kd nm gb ch r0) fo ∧ ∀ (j : Nat) (x : Int), ¬ (48 ≤ j ∧ j ≤ 56 ∧ x = fo) → Z j x = S j x) ∨ (aIx T nm gb = -1 ∧ r0 = -1 ∧ S 150 4 < 4000 ∧ cEc Z kd nms (stE T kd nm gb ch (H.length : Int)) fo ∧ ∃ A B : wS, (∀ (j : Nat) (x : Int), ¬ (48 ≤ j ∧ j ≤ 56 ∧ x = fo) → A j x = S j x) ∧ gI A ∧ rmR S A ∧ ns_ag (H.length : Int) (qPr H (tO T gb).2.1) (tO T gb).2.1 nm A B ∧ ∀ (j : Nat) (x : Int), ¬ (j = 52 ∧ x = fo) → Z j x = B j x) ∨ (aIx T nm gb = -1 ∧ r0 = -1 ∧ 4000 ≤ S 150 4 ∧ Z 215 16 = 99 ∧ ∀ (j : Nat) (x : Int), ¬ latM 215 fo j x → Z j x = S j x))) := by
  have h35 := hl.2.1
  have h48 := hl.2.2.2
  have hlt : cLt S T := hW.2.2.2.2.1
  have hth := hW.1
  have t2 := hlt.2
  have hq1 := hq.1
  have e28 : S 128 gb = (tO T gb).2.1 := (c_th hth hq1.1 hq1.2).1.2.1
  have hs8 := c_hs hsw.1 hth hw gb hq1.1 hq1.2 hq
  rw [e28] at hs8
  obtain ⟨-, hz2, -, hz4⟩ := hsw.2.1
  obtain ⟨sh, hsh⟩ : ∃ i : Int, i = (tO T gb).2.1 := ⟨_, rfl⟩
  rw [← hsh] at e28 hs8
  obtain ⟨⟨q1, q2, q3, q4, q5⟩, q6, q7, q8, q9⟩ := id hbl
  have hg : wG = 1000000 := rfl
  obtain ⟨i1, hi1⟩ : ∃ i : Int, i = aIx T nm gb := ⟨_, rfl⟩
  have hr1 := aIx_rg (T := T) (nm := nm) (k := gb)
  rw [← hi1] at hr1
  have hl1 := (hw.2.2.2.1 gb hq).2
  rw [← hi1]
  have eN : ∀ r : Int, cNm kd nms (stE T kd nm gb ch r) = nm := fun r => cNm_e rfl (by omega) hne rfl
  have eS : ∀ r : Int, eSn kd (stE T kd nm gb ch r) = -1 := fun r => if_neg (fun z => by omega)
  have eL : ∀ r : Int, cLo kd (stE T kd nm gb ch r) = -1 ∧ cHi kd (stE T kd nm gb ch r) = -1 := fun r => ⟨if_neg (fun z => by rcases z.1 with y | y; exact absurd y (show ¬ ((0 : Int) = 1) by decide); exact absurd y (show ¬ ((0 : Int) = 2) by decide)), if_neg (fun z => by rcases z.1 with y | y; exact absurd y (show ¬ ((0 : Int) = 1) by decide); exact absurd y (show ¬ ((0 : Int) = 2) by decide))⟩
  have eE : ∀ r : Int, stE T kd nm gb ch r = (0, sh, enE kd nm, -1, i1, r, ch, 0, 0) := fun r => by unfold stE; rw [hi1, hsh]
  rw [← hsh] at hr ⊢
  refine wa_aload_n (n := 0) rfl ?_
  refine wb_gfi 158 rfl (wy_pr rfl) wt_158 wf_5_7 (v := kd) (l7) (fun r401 => ?_)
  refine wa_iconst ?_
  refine wa_icmpeq (w_rg0 (by omega) (by omega)) (w_rg0 (by omega) (by omega)) ⟨_, rfl⟩ (fun c402 => ?_) (fun c402 => ?_)
  · skip
    exfalso; omega
  · skip
    refine wa_aload_n (n := 0) rfl ?_
    refine wb_gfi 158 rfl (wy_pr rfl) wt_158 wf_5_7 (v := kd) (l7) (fun r403 => ?_)
    refine wa_bipush (w_rg2 (by omega) (by omega)) ?_
    refine wa_icmpne (w_rg0 (by omega) (by omega)) (w_rg0 (by omega) (by omega)) ⟨_, rfl⟩ (fun c404 => ?_) (fun c404 => ?_)
    · skip
      refine wa_aload_n (n := 0) rfl ?_
      refine wb_gfi 158 rfl (wy_pr rfl) wt_158 wf_5_11 (v := nm) (l11) (fun r405 => ?_)
      refine wa_iconst ?_
      refine wa_icmpne (w_rg0 (by omega) (by omega)) (w_rg0 (by omega) (by omega)) ⟨_, rfl⟩ (fun c406 => ?_) (fun c406 => ?_)
      · skip
        refine wa_aload_n (n := 0) rfl ?_
        refine wb_gf4 158 rfl (wy_pr rfl) wt_158 wf_5_0 (v := 72) wl_158_0 ?_
        refine wb_gf4 72 rfl (wy_pr rfl) wt_72 wf_2_2 (v := 126) wl_72_2 ?_
        refine wa_iconst ?_
        refine wb_aald5 126 1 rfl rfl (wy_pr rfl) wt_126 (by rw [show _ = _ from ((cl_126 hC))]; omega) wl_126_1 ?_
        refine wa_iload_n (n := 1) rfl ?_
        refine wb_iald 128 rfl (wy_pr rfl) wt_128 (n := (S 127 (-1))) ((hlt.1 1 (by decide))) (by omega) (by omega) (v := sh) (e28) (fun r407 => ?_)
        refine wa_istore_n (n := 2) rfl ?_
        refine wa_aload_n (n := 0) rfl ?_
        refine wb_gf4 158 rfl (wy_pr rfl) wt_158 wf_5_3 (v := 47) wl_158_3 ?_
        refine wa_iconst ?_
        refine wb_aald5 47 5 rfl rfl (wy_pr rfl) wt_47 (by rw [show _ = _ from ((cl_47 hC))]; omega) wl_47_5 ?_
        refine wa_aload_n (n := 0) rfl ?_
        refine wb_gfi 158 rfl (wy_pr rfl) wt_158 wf_5_14 (v := fo) (l14) (fun r408 => ?_)
        refine wa_aload_n (n := 0) rfl ?_
        refine wb_gfi 158 rfl (wy_pr rfl) wt_158 wf_5_11 (v := nm) (l11) (fun r409 => ?_)
        refine wb_iast 53 rfl (wy_pr rfl) wt_53 (n := (S 48 (-1))) ((hl.2.2.1 5 (by decide))) (by omega) (by omega) ⟨(by omega), (by omega)⟩ ?_
        refine wa_aload_n (n := 0) rfl ?_
        refine wb_gf4 158 rfl (wy_pr rfl) wt_158 wf_5_3 (v := 47) wl_158_3 ?_
        refine wa_iconst ?_
        refine wb_aald5 47 1 rfl rfl (wy_pr rfl) wt_47 (by rw [show _ = _ from ((w_up_slot (by decide)).trans ((cl_47 hC)))]; omega) wl_47_1 ?_
        refine wa_aload_n (n := 0) rfl ?_
        refine wb_gfi 158 rfl (wy_pr rfl) wt_158 wf_5_14 (v := fo) ((w_up_slot (by decide)).trans (l14)) (fun r410 => ?_)
        refine wa_iload_n (n := 2) rfl ?_
        refine wb_iast 49 rfl (wy_pr rfl) wt_49 (n := (S 48 (-1))) ((w_up_slot (by decide)).trans ((hl.2.2.1 1 (by decide)))) (by omega) (by omega) ⟨(by omega), (by omega)⟩ ?_
        refine wa_aload_n (n := 0) rfl ?_
        refine wb_gfi 158 rfl (wy_pr rfl) wt_158 wf_5_7 (v := kd) ((w_up_slot (by decide)).trans ((w_up_slot (by decide)).trans (l7))) (fun r411 => ?_)
        refine wa_iconst ?_
        refine wa_icmpeq (w_rg0 (by omega) (by omega)) (w_rg0 (by omega) (by omega)) ⟨_, rfl⟩ (fun c412 => ?_) (fun c412 => ?_)
        · skip
          refine wa_aload_n (n := 0) rfl ?_
          refine wb_gf4 158 rfl (wy_pr rfl) wt_158 wf_5_3 (v := 47) wl_158_3 ?_
          refine wa_iconst ?_
          refine wb_aald5 47 3 rfl rfl (wy_pr rfl) wt_47 (by rw [show _ = _ from ((w_up_slot (by decide)).trans ((w_up_slot (by decide)).trans ((cl_47 hC))))]; omega) wl_47_3 ?_
          refine wa_aload_n (n := 0) rfl ?_
          refine wb_gfi 158 rfl (wy_pr rfl) wt_158 wf_5_14 (v := fo) ((w_up_slot (by decide)).trans ((w_up_slot (by decide)).trans (l14))) (fun r413 => ?_)
          refine wa_aload_n (n := 0) rfl ?_
          refine wb_gf4 158 rfl (wy_pr rfl) wt_158 wf_5_0 (v := 72) wl_158_0 ?_
          refine wa_iload_n (n := 2) rfl ?_
          refine wa_aload_n (n := 0) rfl ?_
          refine wb_gfi 158 rfl (wy_pr rfl) wt_158 wf_5_11 (v := nm) ((w_up_slot (by decide)).trans ((w_up_slot (by decide)).trans (l11))) (fun r414 => ?_)
          have fX : ∀ (j : Nat) (x : Int), ¬ (48 ≤ j ∧ j ≤ 56 ∧ x = fo) → (w_up (w_up S 53 fo nm) 49 fo sh) j x = S j x := fun j x hj => ((w_up_no (by omega)).trans (w_up_no (by omega)))
          have hC2 : w_CL (w_up (w_up S 53 fo nm) 49 fo sh) := w_CL_up (w_CL_up (hC) hfo.1) hfo.1
          have hsw2 : cSw (w_up (w_up S 53 fo nm) 49 fo sh) T H := cSw_ag hsw (fun j x hj => fX j x (by omega))
          have hW2 : cWd (w_up (w_up S 53 fo nm) 49 fo sh) T L G := cWd_ag hW (cTx_of (fX 2 1 (by first | decide | omega)) (fun x => fX 3 x (by first | decide | omega))) (fun j x hj => fX j x (by unfold cWo at hj; omega))
          refine wa_cv 72 rfl (wy_pr rfl) wt_72 (M2 := mS []) rfl at_XH_indexIn ⟨_, rfl⟩ rfl rfl ⟨trivial, (Or.inr ⟨wy_pr rfl, mS_no rfl⟩), trivial, trivial⟩ ⟨trivial, (Or.inr ⟨wy_pr rfl, mS_no rfl⟩), trivial⟩ (fun _ _ q => mS_sub (by decide) q) (wJ_mono (c_ixo (S := (w_up (w_up S 53 fo nm) 49 fo sh)) (k := gb) hC2 hsw2 hW2.1 hw hq ((fX 128 gb (by omega)).trans e28).symm ⟨by omega, by omega⟩) (fun o Z hz => (⟨hz.1, by rw [hi1]; exact hz.2⟩ : (w_up (w_up S 53 fo nm) 49 fo sh) = Z ∧ o = .inl (some (0, i1))))) (fun oq415 Sq415 hp416 q415 => ?_)
          rcases q415 with ⟨rfl, rfl⟩
          show wJ _ _ _ _ _ _ _ _ _ _
          refine wb_iast 51 rfl (wy_pr rfl) wt_51 (n := (S 48 (-1))) ((w_up_slot (by decide)).trans ((w_up_slot (by decide)).trans ((hl.2.2.1 3 (by decide))))) (by omega) (by omega) ⟨(by omega), (by omega)⟩ ?_
          refine wa_aload_n (n := 0) rfl ?_
          refine wb_gf4 158 rfl (wy_pr rfl) wt_158 wf_5_3 (v := 47) wl_158_3 ?_
          refine wa_iconst ?_
          refine wb_aald5 47 3 rfl rfl (wy_pr rfl) wt_47 (by rw [show _ = _ from ((w_up_slot (by decide)).trans ((w_up_slot (by decide)).trans ((w_up_slot (by decide)).trans ((cl_47 hC)))))]; omega) wl_47_3 ?_
          refine wa_aload_n (n := 0) rfl ?_
          refine wb_gfi 158 rfl (wy_pr rfl) wt_158 wf_5_14 (v := fo) ((w_up_slot (by decide)).trans ((w_up_slot (by decide)).trans ((w_up_slot (by decide)).trans (l14)))) (fun r417 => ?_)
          refine wb_iald 51 rfl (wy_pr rfl) wt_51 (n := (S 48 (-1))) ((w_up_at (by omega)).trans ((w_up_slot (by decide)).trans ((w_up_slot (by decide)).trans ((hl.2.2.1 3 (by decide)))))) (by omega) (by omega) (v := i1) (w_up_same _ _ _ _) (fun r418 => ?_)
          refine wa_iconst ?_
          refine wa_icmpne (w_rg0 (by omega) (by omega)) (w_rg0 (by omega) (by omega)) ⟨_, rfl⟩ (fun c419 => ?_) (fun c419 => ?_)
          · skip
            refine wa_return rfl ?_
            have hcE : cEc (w_up (w_up (w_up S 53 fo nm) 49 fo sh) 51 fo i1) kd nms (stE T kd nm gb ch (-1)) fo := by
              have eN := eN (-1)
              have eS := eS (-1)
              have eL := eL (-1)
              rw [eE] at eN eS eL ⊢
              refine ⟨⟨(((w_up_slot (by first | decide | omega)).trans ((w_up_slot (by first | decide | omega)).trans (w_up_slot (by first | decide | omega)))) : (w_up (w_up (w_up S 53 fo nm) 49 fo sh) 51 fo i1) 48 fo = (S 48 fo)).trans ?_, (((w_up_slot (by first | decide | omega)).trans (w_up_same _ _ _ _)) : (w_up (w_up (w_up S 53 fo nm) 49 fo sh) 51 fo i1) 49 fo = sh).trans ?_, (((w_up_slot (by first | decide | omega)).trans ((w_up_slot (by first | decide | omega)).trans (w_up_slot (by first | decide | omega)))) : (w_up (w_up (w_up S 53 fo nm) 49 fo sh) 51 fo i1) 50 fo = (S 50 fo)).trans ?_, ((w_up_same _ _ _ _) : (w_up (w_up (w_up S 53 fo nm) 49 fo sh) 51 fo i1) 51 fo = i1).trans ?_, (((w_up_slot (by first | decide | omega)).trans ((w_up_slot (by first | decide | omega)).trans (w_up_slot (by first | decide | omega)))) : (w_up (w_up (w_up S 53 fo nm) 49 fo sh) 51 fo i1) 52 fo = (S 52 fo)).trans ?_⟩, ((((w_up_slot (by first | decide | omega)).trans ((w_up_slot (by first | decide | omega)).trans (w_up_same _ _ _ _))) : (w_up (w_up (w_up S 53 fo nm) 49 fo sh) 51 fo i1) 53 fo = nm).trans ?_).trans eN.symm, ((((w_up_slot (by first | decide | omega)).trans ((w_up_slot (by first | decide | omega)).trans (w_up_slot (by first | decide | omega)))) : (w_up (w_up (w_up S 53 fo nm) 49 fo sh) 51 fo i1) 54 fo = (S 54 fo)).trans ?_).trans eS.symm, ((((w_up_slot (by first | decide | omega)).trans ((w_up_slot (by first | decide | omega)).trans (w_up_slot (by first | decide | omega)))) : (w_up (w_up (w_up S 53 fo nm) 49 fo sh) 51 fo i1) 55 fo = (S 55 fo)).trans ?_).trans eL.1.symm, ((((w_up_slot (by first | decide | omega)).trans ((w_up_slot (by first | decide | omega)).trans (w_up_slot (by first | decide | omega)))) : (w_up (w_up (w_up S 53 fo nm) 49 fo sh) 51 fo i1) 56 fo = (S 56 fo)).trans ?_).trans eL.2.symm⟩
              all_goals first | rfl | exact q1 | exact q3 | exact q5 | exact q7 | exact q8 | exact q9
            exact ⟨rfl, Or.inl ⟨by omega, hcE, fun j x hj => ((w_up_no (by omega)).trans ((w_up_no (by omega)).trans (w_up_no (by omega))))⟩⟩
          · skip
            refine wa_aload_n (n := 0) rfl ?_
            refine wb_gf4 158 rfl (wy_pr rfl) wt_158 wf_5_3 (v := 47) wl_158_3 ?_
            refine wa_iconst ?_
            refine wb_aald5 47 4 rfl rfl (wy_pr rfl) wt_47 (by rw [show _ = _ from ((w_up_slot (by decide)).trans ((w_up_slot (by decide)).trans ((w_up_slot (by decide)).trans ((cl_47 hC)))))]; omega) wl_47_4 ?_
            refine wa_aload_n (n := 0) rfl ?_
            refine wb_gfi 158 rfl (wy_pr rfl) wt_158 wf_5_14 (v := fo) ((w_up_slot (by decide)).trans ((w_up_slot (by decide)).trans ((w_up_slot (by decide)).trans (l14)))) (fun r420 => ?_)
            refine wa_aload_n (n := 0) rfl ?_
            refine wb_gf4 158 rfl (wy_pr rfl) wt_158 wf_5_0 (v := 72) wl_158_0 ?_
            refine wa_iload_n (n := 2) rfl ?_
            refine wa_aload_n (n := 0) rfl ?_
            refine wb_gfi 158 rfl (wy_pr rfl) wt_158 wf_5_11 (v := nm) ((w_up_slot (by decide)).trans ((w_up_slot (by decide)).trans ((w_up_slot (by decide)).trans (l11)))) (fun r421 => ?_)
            have fX : ∀ (j : Nat) (x : Int), ¬ (48 ≤ j ∧ j ≤ 56 ∧ x = fo) → (w_up (w_up (w_up S 53 fo nm) 49 fo sh) 51 fo i1) j x = S j x := fun j x hj => ((w_up_no (by omega)).trans ((w_up_no (by omega)).trans (w_up_no (by omega))))
            have hC2 : w_CL (w_up (w_up (w_up S 53 fo nm) 49 fo sh) 51 fo i1) := w_CL_up (w_CL_up (w_CL_up (hC) hfo.1) hfo.1) hfo.1
            have hsw2 : cSw (w_up (w_up (w_up S 53 fo nm) 49 fo sh) 51 fo i1) T H := cSw_ag hsw (fun j x hj => fX j x (by omega))
            have hW2 : cWd (w_up (w_up (w_up S 53 fo nm) 49 fo sh) 51 fo i1) T L G := cWd_ag hW (cTx_of (fX 2 1 (by first | decide | omega)) (fun x => fX 3 x (by first | decide | omega))) (fun j x hj => fX j x (by unfold cWo at hj; omega))
            have hI2 : gI (w_up (w_up (w_up S 53 fo nm) 49 fo sh) 51 fo i1) := gI_up (gI_up (gI_up (hI) hfo.1 (by first | decide | omega) (by first | decide | omega)) hfo.1 (by first | decide | omega) (by first | decide | omega)) hfo.1 (by first | decide | omega) (by first | decide | omega)
            have hR2 : rmR S (w_up (w_up (w_up S 53 fo nm) 49 fo sh) 51 fo i1) := rmR_up (rmR_up (rmR_up (rmR_rfl S) hfo.1 (by first | decide | omega)) hfo.1 (by first | decide | omega)) hfo.1 (by first | decide | omega)
            have e15 : (w_up (w_up (w_up S 53 fo nm) 49 fo sh) 51 fo i1) 150 4 = S 150 4 := fX 150 4 (by first | decide | omega)
            refine wa_cv 72 rfl (wy_pr rfl) wt_72 (M2 := mS [144, 145, 146, 147, 148]) rfl at_XH_reachShape ⟨_, rfl⟩ rfl rfl ⟨trivial, (Or.inr ⟨wy_pr rfl, mS_no rfl⟩), trivial, trivial⟩ ⟨trivial, (Or.inr ⟨wy_pr rfl, mS_no rfl⟩), trivial⟩ (fun _ _ q => q) (c_rs (S := (w_up (w_up (w_up S 53 fo nm) 49 fo sh) 51 fo i1)) (r := r0) hC2 hI2 hx1 hsw2 hw ⟨hs8.1, hs8.2.1⟩ ⟨by omega, by omega⟩ (by rw [e15]; exact hu) hr) (fun oq422 Sq422 hp423 q422 => ?_)
            rcases q422 with ⟨hr0, rfl, rfl⟩ | ⟨hr0, hu4, rfl, rfl⟩ | ⟨hr0, hu4, hns, rfl⟩
            · skip
              show wJ _ _ _ _ _ _ _ _ _ _
              have hr2 := aFs_rg (H := H) (be := sh) (pr := qPr H sh) (nm := nm)
              rw [← hr] at hr2
              refine wb_iast 52 rfl (wy_pr rfl) wt_52 (n := (S 48 (-1))) ((w_up_slot (by decide)).trans ((w_up_slot (by decide)).trans ((w_up_slot (by decide)).trans ((hl.2.2.1 4 (by decide)))))) (by omega) (by omega) ⟨(by omega), (by omega)⟩ ?_
              refine wa_aload_n (n := 0) rfl ?_
              refine wb_gf4 158 rfl (wy_pr rfl) wt_158 wf_5_3 (v := 47) wl_158_3 ?_
              refine wa_iconst ?_
              refine wb_aald5 47 4 rfl rfl (wy_pr rfl) wt_47 (by rw [show _ = _ from ((w_up_slot (by decide)).trans ((w_up_slot (by decide)).trans ((w_up_slot (by decide)).trans ((w_up_slot (by decide)).trans ((cl_47 hC))))))]; omega) wl_47_4 ?_
              refine wa_aload_n (n := 0) rfl ?_
              refine wa_fall ⟨_, rfl⟩ ?_
              refine wb_gfi 158 rfl (wy_pr rfl) wt_158 wf_5_14 (v := fo) ((w_up_slot (by decide)).trans ((w_up_slot (by decide)).trans ((w_up_slot (by decide)).trans ((w_up_slot (by decide)).trans (l14))))) (fun r424 => ?_)
              refine wb_iald 52 rfl (wy_pr rfl) wt_52 (n := (S 48 (-1))) ((w_up_at (by omega)).trans ((w_up_slot (by decide)).trans ((w_up_slot (by decide)).trans ((w_up_slot (by decide)).trans ((hl.2.2.1 4 (by decide))))))) (by omega) (by omega) (v := r0) (w_up_same _ _ _ _) (fun r425 => ?_)
              refine wa_iconst ?_
              refine wa_icmpne (w_rg0 (by omega) (by omega)) (w_rg0 (by omega) (by omega)) ⟨_, rfl⟩ (fun c426 => ?_) (fun c426 => ?_)
              · skip
                refine wa_return rfl ?_
                have hcE : cEc (w_up (w_up (w_up (w_up S 53 fo nm) 49 fo sh) 51 fo i1) 52 fo r0) kd nms (stE T kd nm gb ch r0) fo := by
                  have eN := eN r0
                  have eS := eS r0
                  have eL := eL r0
                  rw [eE] at eN eS eL ⊢
                  refine ⟨⟨(((w_up_slot (by first | decide | omega)).trans ((w_up_slot (by first | decide | omega)).trans ((w_up_slot (by first | decide | omega)).trans (w_up_slot (by first | decide | omega))))) : (w_up (w_up (w_up (w_up S 53 fo nm) 49 fo sh) 51 fo i1) 52 fo r0) 48 fo = (S 48 fo)).trans ?_, (((w_up_slot (by first | decide | omega)).trans ((w_up_slot (by first | decide | omega)).trans (w_up_same _ _ _ _))) : (w_up (w_up (w_up (w_up S 53 fo nm) 49 fo sh) 51 fo i1) 52 fo r0) 49 fo = sh).trans ?_, (((w_up_slot (by first | decide | omega)).trans ((w_up_slot (by first | decide | omega)).trans ((w_up_slot (by first | decide | omega)).trans (w_up_slot (by first | decide | omega))))) : (w_up (w_up (w_up (w_up S 53 fo nm) 49 fo sh) 51 fo i1) 52 fo r0) 50 fo = (S 50 fo)).trans ?_, (((w_up_slot (by first | decide | omega)).trans (w_up_same _ _ _ _)) : (w_up (w_up (w_up (w_up S 53 fo nm) 49 fo sh) 51 fo i1) 52 fo r0) 51 fo = i1).trans ?_, ((w_up_same _ _ _ _) : (w_up (w_up (w_up (w_up S 53 fo nm) 49 fo sh) 51 fo i1) 52 fo r0) 52 fo = r0).trans ?_⟩, ((((w_up_slot (by first | decide | omega)).trans ((w_up_slot (by first | decide | omega)).trans ((w_up_slot (by first | decide | omega)).trans (w_up_same _ _ _ _)))) : (w_up (w_up (w_up (w_up S 53 fo nm) 49 fo sh) 51 fo i1) 52 fo r0) 53 fo = nm).trans ?_).trans eN.symm, ((((w_up_slot (by first | decide | omega)).trans ((w_up_slot (by first | decide | omega)).trans ((w_up_slot (by first | decide | omega)).trans (w_up_slot (by first | decide | omega))))) : (w_up (w_up (w_up (w_up S 53 fo nm) 49 fo sh) 51 fo i1) 52 fo r0) 54 fo = (S 54 fo)).trans ?_).trans eS.symm, ((((w_up_slot (by first | decide | omega)).trans ((w_up_slot (by first | decide | omega)).trans ((w_up_slot (by first | decide | omega)).trans (w_up_slot (by first | decide | omega))))) : (w_up (w_up (w_up (w_up S 53 fo nm) 49 fo sh) 51 fo i1) 52 fo r0) 55 fo = (S 55 fo)).trans ?_).trans eL.1.symm, ((((w_up_slot (by first | decide | omega)).trans ((w_up_slot (by first | decide | omega)).trans ((w_up_slot (by first | decide | omega)).trans (w_up_slot (by first | decide | omega))))) : (w_up (w_up (w_up (w_up S 53 fo nm) 49 fo sh) 51 fo i1) 52 fo r0) 56 fo = (S 56 fo)).trans ?_).trans eL.2.symm⟩
                  all_goals first | rfl | exact q1 | exact q3 | exact q5 | exact q7 | exact q8 | exact q9
                exact ⟨rfl, Or.inr (Or.inl ⟨by omega, hr0, hcE, fun j x hj => ((w_up_no (by omega)).trans ((w_up_no (by omega)).trans ((w_up_no (by omega)).trans (w_up_no (by omega)))))⟩)⟩
              · skip
                exact absurd c426 (by omega)
            · skip
              show wJ _ _ _ _ _ _ _ _ _ _
              refine wb_iast 52 rfl (wy_pr rfl) wt_52 (n := (S 48 (-1))) ((w_up_slot (by decide)).trans ((w_up_slot (by decide)).trans ((w_up_slot (by decide)).trans ((hl.2.2.1 4 (by decide)))))) (by omega) (by omega) ⟨(by omega), (by omega)⟩ ?_
              refine wa_aload_n (n := 0) rfl ?_
              refine wb_gf4 158 rfl (wy_pr rfl) wt_158 wf_5_3 (v := 47) wl_158_3 ?_
              refine wa_iconst ?_
              refine wb_aald5 47 4 rfl rfl (wy_pr rfl) wt_47 (by rw [show _ = _ from ((w_up_slot (by decide)).trans ((w_up_slot (by decide)).trans ((w_up_slot (by decide)).trans ((w_up_slot (by decide)).trans ((cl_47 hC))))))]; omega) wl_47_4 ?_
              refine wa_aload_n (n := 0) rfl ?_
              refine wa_fall ⟨_, rfl⟩ ?_
              refine wb_gfi 158 rfl (wy_pr rfl) wt_158 wf_5_14 (v := fo) ((w_up_slot (by decide)).trans ((w_up_slot (by decide)).trans ((w_up_slot (by decide)).trans ((w_up_slot (by decide)).trans (l14))))) (fun r427 => ?_)
              refine wb_iald 52 rfl (wy_pr rfl) wt_52 (n := (S 48 (-1))) ((w_up_at (by omega)).trans ((w_up_slot (by decide)).trans ((w_up_slot (by decide)).trans ((w_up_slot (by decide)).trans ((hl.2.2.1 4 (by decide))))))) (by omega) (by omega) (v := (-1)) (w_up_same _ _ _ _) (fun r428 => ?_)
              refine wa_iconst ?_
              refine wa_icmpne (w_rg0 (by omega) (by omega)) (w_rg0 (by omega) (by omega)) ⟨_, rfl⟩ (fun c429 => ?_) (fun c429 => ?_)
              · skip
                exact absurd c429 (by omega)
              · skip
                refine wa_aload_n (n := 0) rfl ?_
                refine wb_gf5 158 rfl (wy_pr rfl) wt_158 wf_5_4 (v := 215) ((w_up_slot (by decide)).trans ((w_up_slot (by decide)).trans ((w_up_slot (by decide)).trans ((w_up_slot (by decide)).trans (l4))))) (fun r430 => ?_)
                refine wa_bipush (w_rg2 (by omega) (by omega)) ?_
                refine wb_pfi 215 rfl (wy_pr rfl) wt_215 wf_8_16 (n := 16) rfl ⟨(by omega), (by omega)⟩ ?_
                refine wa_fall ⟨_, rfl⟩ ?_
                refine wa_return rfl ?_
                exact ⟨rfl, Or.inr (Or.inr (Or.inr ⟨by omega, hr0, by rw [← e15]; exact hu4, w_up_same _ _ _ _, fun j x hj => ((w_up_no (by unfold latM at hj; omega)).trans ((w_up_no (by unfold latM at hj; omega)).trans ((w_up_no (by unfold latM at hj; omega)).trans ((w_up_no (by unfold latM at hj; omega)).trans (w_up_no (by unfold latM at hj; omega))))))⟩))⟩
            · skip
              show wJ _ _ _ _ _ _ _ _ _ _
              refine wb_iast 52 rfl (wy_pr rfl) wt_52 (n := (S 48 (-1))) (((hns.2.2.2.2.1 52 (-1) (by decide) (by decide) (by decide) (Or.inl (by decide)) (Or.inl (by decide)) (Or.inl (by decide))).trans ((w_up_slot (by decide)).trans ((w_up_slot (by decide)).trans ((w_up_slot (by decide)).trans ((hl.2.2.1 4 (by decide)))))))) (by omega) (by omega) ⟨(by omega), (by omega)⟩ ?_
              refine wa_aload_n (n := 0) rfl ?_
              refine wb_gf4 158 rfl (wy_pr rfl) wt_158 wf_5_3 (v := 47) wl_158_3 ?_
              refine wa_iconst ?_
              refine wb_aald5 47 4 rfl rfl (wy_pr rfl) wt_47 (by rw [show _ = _ from ((w_up_slot (by decide)).trans (((hns.2.2.2.2.1 47 (-1) (by decide) (by decide) (by decide) (Or.inl (by decide)) (Or.inl (by decide)) (Or.inl (by decide))).trans ((w_up_slot (by decide)).trans ((w_up_slot (by decide)).trans ((w_up_slot (by decide)).trans ((cl_47 hC))))))))]; omega) wl_47_4 ?_
              refine wa_aload_n (n := 0) rfl ?_
              refine wa_fall ⟨_, rfl⟩ ?_
              refine wb_gfi 158 rfl (wy_pr rfl) wt_158 wf_5_14 (v := fo) ((w_up_slot (by decide)).trans (((hns.2.2.2.2.1 158 14 (by decide) (by decide) (by decide) (Or.inl (by decide)) (Or.inl (by decide)) (Or.inl (by decide))).trans ((w_up_slot (by decide)).trans ((w_up_slot (by decide)).trans ((w_up_slot (by decide)).trans (l14))))))) (fun r431 => ?_)
              refine wb_iald 52 rfl (wy_pr rfl) wt_52 (n := (S 48 (-1))) ((w_up_at (by omega)).trans (((hns.2.2.2.2.1 52 (-1) (by decide) (by decide) (by decide) (Or.inl (by decide)) (Or.inl (by decide)) (Or.inl (by decide))).trans ((w_up_slot (by decide)).trans ((w_up_slot (by decide)).trans ((w_up_slot (by decide)).trans ((hl.2.2.1 4 (by decide))))))))) (by omega) (by omega) (v := (H.length : Int)) (w_up_same _ _ _ _) (fun r432 => ?_)
              refine wa_iconst ?_
              refine wa_icmpne (w_rg0 (by omega) (by omega)) (w_rg0 (by omega) (by omega)) ⟨_, rfl⟩ (fun c433 => ?_) (fun c433 => ?_)
              · skip
                refine wa_return rfl ?_
                have hcE : cEc (w_up Sq422 52 fo (H.length : Int)) kd nms (stE T kd nm gb ch (H.length : Int)) fo := by
                  have eN := eN (H.length : Int)
                  have eS := eS (H.length : Int)
                  have eL := eL (H.length : Int)
                  rw [eE] at eN eS eL ⊢
                  refine ⟨⟨(((w_up_slot (by first | decide | omega)).trans (((hns.2.2.2.2.1 48 fo (by first | decide | omega) (by first | decide | omega) (by first | decide | omega) (Or.inl (by first | decide | omega)) (Or.inl (by first | decide | omega)) (Or.inl (by first | decide | omega))).trans ((w_up_slot (by first | decide | omega)).trans ((w_up_slot (by first | decide | omega)).trans (w_up_slot (by first | decide | omega))))))) : (w_up Sq422 52 fo (H.length : Int)) 48 fo = (S 48 fo)).trans ?_, (((w_up_slot (by first | decide | omega)).trans (((hns.2.2.2.2.1 49 fo (by first | decide | omega) (by first | decide | omega) (by first | decide | omega) (Or.inl (by first | decide | omega)) (Or.inl (by first | decide | omega)) (Or.inl (by first | decide | omega))).trans ((w_up_slot (by first | decide | omega)).trans (w_up_same _ _ _ _))))) : (w_up Sq422 52 fo (H.length : Int)) 49 fo = sh).trans ?_, (((w_up_slot (by first | decide | omega)).trans (((hns.2.2.2.2.1 50 fo (by first | decide | omega) (by first | decide | omega) (by first | decide | omega) (Or.inl (by first | decide | omega)) (Or.inl (by first | decide | omega)) (Or.inl (by first | decide | omega))).trans ((w_up_slot (by first | decide | omega)).trans ((w_up_slot (by first | decide | omega)).trans (w_up_slot (by first | decide | omega))))))) : (w_up Sq422 52 fo (H.length : Int)) 50 fo = (S 50 fo)).trans ?_, (((w_up_slot (by first | decide | omega)).trans (((hns.2.2.2.2.1 51 fo (by first | decide | omega) (by first | decide | omega) (by first | decide | omega) (Or.inl (by first | decide | omega)) (Or.inl (by first | decide | omega)) (Or.inl (by first | decide | omega))).trans (w_up_same _ _ _ _)))) : (w_up Sq422 52 fo (H.length : Int)) 51 fo = i1).trans ?_, ((w_up_same _ _ _ _) : (w_up Sq422 52 fo (H.length : Int)) 52 fo = (H.length : Int)).trans ?_⟩, ((((w_up_slot (by first | decide | omega)).trans (((hns.2.2.2.2.1 53 fo (by first | decide | omega) (by first | decide | omega) (by first | decide | omega) (Or.inl (by first | decide | omega)) (Or.inl (by first | decide | omega)) (Or.inl (by first | decide | omega))).trans ((w_up_slot (by first | decide | omega)).trans ((w_up_slot (by first | decide | omega)).trans (w_up_same _ _ _ _)))))) : (w_up Sq422 52 fo (H.length : Int)) 53 fo = nm).trans ?_).trans eN.symm, ((((w_up_slot (by first | decide | omega)).trans (((hns.2.2.2.2.1 54 fo (by first | decide | omega) (by first | decide | omega) (by first | decide | omega) (Or.inl (by first | decide | omega)) (Or.inl (by first | decide | omega)) (Or.inl (by first | decide | omega))).trans ((w_up_slot (by first | decide | omega)).trans ((w_up_slot (by first | decide | omega)).trans (w_up_slot (by first | decide | omega))))))) : (w_up Sq422 52 fo (H.length : Int)) 54 fo = (S 54 fo)).trans ?_).trans eS.symm, ((((w_up_slot (by first | decide | omega)).trans (((hns.2.2.2.2.1 55 fo (by first | decide | omega) (by first | decide | omega) (by first | decide | omega) (Or.inl (by first | decide | omega)) (Or.inl (by first | decide | omega)) (Or.inl (by first | decide | omega))).trans ((w_up_slot (by first | decide | omega)).trans ((w_up_slot (by first | decide | omega)).trans (w_up_slot (by first | decide | omega))))))) : (w_up Sq422 52 fo (H.length : Int)) 55 fo = (S 55 fo)).trans ?_).trans eL.1.symm, ((((w_up_slot (by first | decide | omega)).trans (((hns.2.2.2.2.1 56 fo (by first | decide | omega) (by first | decide | omega) (by first | decide | omega) (Or.inl (by first | decide | omega)) (Or.inl (by first | decide | omega)) (Or.inl (by first | decide | omega))).trans ((w_up_slot (by first | decide | omega)).trans ((w_up_slot (by first | decide | omega)).trans (w_up_slot (by first | decide | omega))))))) : (w_up Sq422 52 fo (H.length : Int)) 56 fo = (S 56 fo)).trans ?_).trans eL.2.symm⟩
                  all_goals first | rfl | exact q1 | exact q3 | exact q5 | exact q7 | exact q8 | exact q9
                exact ⟨rfl, Or.inr (Or.inr (Or.inl ⟨by omega, hr0, by rw [← e15]; exact hu4, hcE, (w_up (w_up (w_up S 53 fo nm) 49 fo sh) 51 fo i1), Sq422, fX, hI2, hR2, hns, fun j x hj => w_up_no (by omega)⟩))⟩
              · skip
                exact absurd c433 (by omega)
        · skip
          refine wa_aload_n (n := 0) rfl ?_
          refine wb_gfi 158 rfl (wy_pr rfl) wt_158 wf_5_7 (v := kd) ((w_up_slot (by decide)).trans ((w_up_slot (by decide)).trans (l7))) (fun r434 => ?_)
          refine wa_iconst ?_
          refine wa_icmpeq (w_rg0 (by omega) (by omega)) (w_rg0 (by omega) (by omega)) ⟨_, rfl⟩ (fun c435 => ?_) (fun c435 => ?_)
          · skip
            refine wa_aload_n (n := 0) rfl ?_
            refine wb_gf4 158 rfl (wy_pr rfl) wt_158 wf_5_3 (v := 47) wl_158_3 ?_
            refine wa_iconst ?_
            refine wb_aald5 47 3 rfl rfl (wy_pr rfl) wt_47 (by rw [show _ = _ from ((w_up_slot (by decide)).trans ((w_up_slot (by decide)).trans ((cl_47 hC))))]; omega) wl_47_3 ?_
            refine wa_aload_n (n := 0) rfl ?_
            refine wb_gfi 158 rfl (wy_pr rfl) wt_158 wf_5_14 (v := fo) ((w_up_slot (by decide)).trans ((w_up_slot (by decide)).trans (l14))) (fun r436 => ?_)
            refine wa_aload_n (n := 0) rfl ?_
            refine wb_gf4 158 rfl (wy_pr rfl) wt_158 wf_5_0 (v := 72) wl_158_0 ?_
            refine wa_iload_n (n := 2) rfl ?_
            refine wa_aload_n (n := 0) rfl ?_
            refine wb_gfi 158 rfl (wy_pr rfl) wt_158 wf_5_11 (v := nm) ((w_up_slot (by decide)).trans ((w_up_slot (by decide)).trans (l11))) (fun r437 => ?_)
            have fX : ∀ (j : Nat) (x : Int), ¬ (48 ≤ j ∧ j ≤ 56 ∧ x = fo) → (w_up (w_up S 53 fo nm) 49 fo sh) j x = S j x := fun j x hj => ((w_up_no (by omega)).trans (w_up_no (by omega)))
            have hC2 : w_CL (w_up (w_up S 53 fo nm) 49 fo sh) := w_CL_up (w_CL_up (hC) hfo.1) hfo.1
            have hsw2 : cSw (w_up (w_up S 53 fo nm) 49 fo sh) T H := cSw_ag hsw (fun j x hj => fX j x (by omega))
            have hW2 : cWd (w_up (w_up S 53 fo nm) 49 fo sh) T L G := cWd_ag hW (cTx_of (fX 2 1 (by first | decide | omega)) (fun x => fX 3 x (by first | decide | omega))) (fun j x hj => fX j x (by unfold cWo at hj; omega))
            refine wa_cv 72 rfl (wy_pr rfl) wt_72 (M2 := mS []) rfl at_XH_indexIn ⟨_, rfl⟩ rfl rfl ⟨trivial, (Or.inr ⟨wy_pr rfl, mS_no rfl⟩), trivial, trivial⟩ ⟨trivial, (Or.inr ⟨wy_pr rfl, mS_no rfl⟩), trivial⟩ (fun _ _ q => mS_sub (by decide) q) (wJ_mono (c_ixo (S := (w_up (w_up S 53 fo nm) 49 fo sh)) (k := gb) hC2 hsw2 hW2.1 hw hq ((fX 128 gb (by omega)).trans e28).symm ⟨by omega, by omega⟩) (fun o Z hz => (⟨hz.1, by rw [hi1]; exact hz.2⟩ : (w_up (w_up S 53 fo nm) 49 fo sh) = Z ∧ o = .inl (some (0, i1))))) (fun oq438 Sq438 hp439 q438 => ?_)
            rcases q438 with ⟨rfl, rfl⟩
            show wJ _ _ _ _ _ _ _ _ _ _
            refine wb_iast 51 rfl (wy_pr rfl) wt_51 (n := (S 48 (-1))) ((w_up_slot (by decide)).trans ((w_up_slot (by decide)).trans ((hl.2.2.1 3 (by decide))))) (by omega) (by omega) ⟨(by omega), (by omega)⟩ ?_
            refine wa_aload_n (n := 0) rfl ?_
            refine wb_gf4 158 rfl (wy_pr rfl) wt_158 wf_5_3 (v := 47) wl_158_3 ?_
            refine wa_iconst ?_
            refine wb_aald5 47 3 rfl rfl (wy_pr rfl) wt_47 (by rw [show _ = _ from ((w_up_slot (by decide)).trans ((w_up_slot (by decide)).trans ((w_up_slot (by decide)).trans ((cl_47 hC)))))]; omega) wl_47_3 ?_
            refine wa_aload_n (n := 0) rfl ?_
            refine wb_gfi 158 rfl (wy_pr rfl) wt_158 wf_5_14 (v := fo) ((w_up_slot (by decide)).trans ((w_up_slot (by decide)).trans ((w_up_slot (by decide)).trans (l14)))) (fun r440 => ?_)
            refine wb_iald 51 rfl (wy_pr rfl) wt_51 (n := (S 48 (-1))) ((w_up_at (by omega)).trans ((w_up_slot (by decide)).trans ((w_up_slot (by decide)).trans ((hl.2.2.1 3 (by decide)))))) (by omega) (by omega) (v := i1) (w_up_same _ _ _ _) (fun r441 => ?_)
            refine wa_iconst ?_
            refine wa_icmpne (w_rg0 (by omega) (by omega)) (w_rg0 (by omega) (by omega)) ⟨_, rfl⟩ (fun c442 => ?_) (fun c442 => ?_)
            · skip
              refine wa_return rfl ?_
              have hcE : cEc (w_up (w_up (w_up S 53 fo nm) 49 fo sh) 51 fo i1) kd nms (stE T kd nm gb ch (-1)) fo := by
                have eN := eN (-1)
                have eS := eS (-1)
                have eL := eL (-1)
                rw [eE] at eN eS eL ⊢
                refine ⟨⟨(((w_up_slot (by first | decide | omega)).trans ((w_up_slot (by first | decide | omega)).trans (w_up_slot (by first | decide | omega)))) : (w_up (w_up (w_up S 53 fo nm) 49 fo sh) 51 fo i1) 48 fo = (S 48 fo)).trans ?_, (((w_up_slot (by first | decide | omega)).trans (w_up_same _ _ _ _)) : (w_up (w_up (w_up S 53 fo nm) 49 fo sh) 51 fo i1) 49 fo = sh).trans ?_, (((w_up_slot (by first | decide | omega)).trans ((w_up_slot (by first | decide | omega)).trans (w_up_slot (by first | decide | omega)))) : (w_up (w_up (w_up S 53 fo nm) 49 fo sh) 51 fo i1) 50 fo = (S 50 fo)).trans ?_, ((w_up_same _ _ _ _) : (w_up (w_up (w_up S 53 fo nm) 49 fo sh) 51 fo i1) 51 fo = i1).trans ?_, (((w_up_slot (by first | decide | omega)).trans ((w_up_slot (by first | decide | omega)).trans (w_up_slot (by first | decide | omega)))) : (w_up (w_up (w_up S 53 fo nm) 49 fo sh) 51 fo i1) 52 fo = (S 52 fo)).trans ?_⟩, ((((w_up_slot (by first | decide | omega)).trans ((w_up_slot (by first | decide | omega)).trans (w_up_same _ _ _ _))) : (w_up (w_up (w_up S 53 fo nm) 49 fo sh) 51 fo i1) 53 fo = nm).trans ?_).trans eN.symm, ((((w_up_slot (by first | decide | omega)).trans ((w_up_slot (by first | decide | omega)).trans (w_up_slot (by first | decide | omega)))) : (w_up (w_up (w_up S 53 fo nm) 49 fo sh) 51 fo i1) 54 fo = (S 54 fo)).trans ?_).trans eS.symm, ((((w_up_slot (by first | decide | omega)).trans ((w_up_slot (by first | decide | omega)).trans (w_up_slot (by first | decide | omega)))) : (w_up (w_up (w_up S 53 fo nm) 49 fo sh) 51 fo i1) 55 fo = (S 55 fo)).trans ?_).trans eL.1.symm, ((((w_up_slot (by first | decide | omega)).trans ((w_up_slot (by first | decide | omega)).trans (w_up_slot (by first | decide | omega)))) : (w_up (w_up (w_up S 53 fo nm) 49 fo sh) 51 fo i1) 56 fo = (S 56 fo)).trans ?_).trans eL.2.symm⟩
                all_goals first | rfl | exact q1 | exact q3 | exact q5 | exact q7 | exact q8 | exact q9
              exact ⟨rfl, Or.inl ⟨by omega, hcE, fun j x hj => ((w_up_no (by omega)).trans ((w_up_no (by omega)).trans (w_up_no (by omega))))⟩⟩
            · skip
              refine wa_aload_n (n := 0) rfl ?_
              refine wb_gf4 158 rfl (wy_pr rfl) wt_158 wf_5_3 (v := 47) wl_158_3 ?_
              refine wa_iconst ?_
              refine wb_aald5 47 4 rfl rfl (wy_pr rfl) wt_47 (by rw [show _ = _ from ((w_up_slot (by decide)).trans ((w_up_slot (by decide)).trans ((w_up_slot (by decide)).trans ((cl_47 hC)))))]; omega) wl_47_4 ?_
              refine wa_aload_n (n := 0) rfl ?_
              refine wb_gfi 158 rfl (wy_pr rfl) wt_158 wf_5_14 (v := fo) ((w_up_slot (by decide)).trans ((w_up_slot (by decide)).trans ((w_up_slot (by decide)).trans (l14)))) (fun r443 => ?_)
              refine wa_aload_n (n := 0) rfl ?_
              refine wb_gf4 158 rfl (wy_pr rfl) wt_158 wf_5_0 (v := 72) wl_158_0 ?_
              refine wa_iload_n (n := 2) rfl ?_
              refine wa_aload_n (n := 0) rfl ?_
              refine wb_gfi 158 rfl (wy_pr rfl) wt_158 wf_5_11 (v := nm) ((w_up_slot (by decide)).trans ((w_up_slot (by decide)).trans ((w_up_slot (by decide)).trans (l11)))) (fun r444 => ?_)
              have fX : ∀ (j : Nat) (x : Int), ¬ (48 ≤ j ∧ j ≤ 56 ∧ x = fo) → (w_up (w_up (w_up S 53 fo nm) 49 fo sh) 51 fo i1) j x = S j x := fun j x hj => ((w_up_no (by omega)).trans ((w_up_no (by omega)).trans (w_up_no (by omega))))
              have hC2 : w_CL (w_up (w_up (w_up S 53 fo nm) 49 fo sh) 51 fo i1) := w_CL_up (w_CL_up (w_CL_up (hC) hfo.1) hfo.1) hfo.1
              have hsw2 : cSw (w_up (w_up (w_up S 53 fo nm) 49 fo sh) 51 fo i1) T H := cSw_ag hsw (fun j x hj => fX j x (by omega))
              have hW2 : cWd (w_up (w_up (w_up S 53 fo nm) 49 fo sh) 51 fo i1) T L G := cWd_ag hW (cTx_of (fX 2 1 (by first | decide | omega)) (fun x => fX 3 x (by first | decide | omega))) (fun j x hj => fX j x (by unfold cWo at hj; omega))
              have hI2 : gI (w_up (w_up (w_up S 53 fo nm) 49 fo sh) 51 fo i1) := gI_up (gI_up (gI_up (hI) hfo.1 (by first | decide | omega) (by first | decide | omega)) hfo.1 (by first | decide | omega) (by first | decide | omega)) hfo.1 (by first | decide | omega) (by first | decide | omega)
              have hR2 : rmR S (w_up (w_up (w_up S 53 fo nm) 49 fo sh) 51 fo i1) := rmR_up (rmR_up (rmR_up (rmR_rfl S) hfo.1 (by first | decide | omega)) hfo.1 (by first | decide | omega)) hfo.1 (by first | decide | omega)
              have e15 : (w_up (w_up (w_up S 53 fo nm) 49 fo sh) 51 fo i1) 150 4 = S 150 4 := fX 150 4 (by first | decide | omega)
              refine wa_cv 72 rfl (wy_pr rfl) wt_72 (M2 := mS [144, 145, 146, 147, 148]) rfl at_XH_reachShape ⟨_, rfl⟩ rfl rfl ⟨trivial, (Or.inr ⟨wy_pr rfl, mS_no rfl⟩), trivial, trivial⟩ ⟨trivial, (Or.inr ⟨wy_pr rfl, mS_no rfl⟩), trivial⟩ (fun _ _ q => q) (c_rs (S := (w_up (w_up (w_up S 53 fo nm) 49 fo sh) 51 fo i1)) (r := r0) hC2 hI2 hx1 hsw2 hw ⟨hs8.1, hs8.2.1⟩ ⟨by omega, by omega⟩ (by rw [e15]; exact hu) hr) (fun oq445 Sq445 hp446 q445 => ?_)
              rcases q445 with ⟨hr0, rfl, rfl⟩ | ⟨hr0, hu4, rfl, rfl⟩ | ⟨hr0, hu4, hns, rfl⟩
              · skip
                show wJ _ _ _ _ _ _ _ _ _ _
                have hr2 := aFs_rg (H := H) (be := sh) (pr := qPr H sh) (nm := nm)
                rw [← hr] at hr2
                refine wb_iast 52 rfl (wy_pr rfl) wt_52 (n := (S 48 (-1))) ((w_up_slot (by decide)).trans ((w_up_slot (by decide)).trans ((w_up_slot (by decide)).trans ((hl.2.2.1 4 (by decide)))))) (by omega) (by omega) ⟨(by omega), (by omega)⟩ ?_
                refine wa_aload_n (n := 0) rfl ?_
                refine wb_gf4 158 rfl (wy_pr rfl) wt_158 wf_5_3 (v := 47) wl_158_3 ?_
                refine wa_iconst ?_
                refine wb_aald5 47 4 rfl rfl (wy_pr rfl) wt_47 (by rw [show _ = _ from ((w_up_slot (by decide)).trans ((w_up_slot (by decide)).trans ((w_up_slot (by decide)).trans ((w_up_slot (by decide)).trans ((cl_47 hC))))))]; omega) wl_47_4 ?_
                refine wa_aload_n (n := 0) rfl ?_
                refine wa_fall ⟨_, rfl⟩ ?_
                refine wb_gfi 158 rfl (wy_pr rfl) wt_158 wf_5_14 (v := fo) ((w_up_slot (by decide)).trans ((w_up_slot (by decide)).trans ((w_up_slot (by decide)).trans ((w_up_slot (by decide)).trans (l14))))) (fun r447 => ?_)
                refine wb_iald 52 rfl (wy_pr rfl) wt_52 (n := (S 48 (-1))) ((w_up_at (by omega)).trans ((w_up_slot (by decide)).trans ((w_up_slot (by decide)).trans ((w_up_slot (by decide)).trans ((hl.2.2.1 4 (by decide))))))) (by omega) (by omega) (v := r0) (w_up_same _ _ _ _) (fun r448 => ?_)
                refine wa_iconst ?_
                refine wa_icmpne (w_rg0 (by omega) (by omega)) (w_rg0 (by omega) (by omega)) ⟨_, rfl⟩ (fun c449 => ?_) (fun c449 => ?_)
                · skip
                  refine wa_return rfl ?_
                  have hcE : cEc (w_up (w_up (w_up (w_up S 53 fo nm) 49 fo sh) 51 fo i1) 52 fo r0) kd nms (stE T kd nm gb ch r0) fo := by
                    have eN := eN r0
                    have eS := eS r0
                    have eL := eL r0
                    rw [eE] at eN eS eL ⊢
                    refine ⟨⟨(((w_up_slot (by first | decide | omega)).trans ((w_up_slot (by first | decide | omega)).trans ((w_up_slot (by first | decide | omega)).trans (w_up_slot (by first | decide | omega))))) : (w_up (w_up (w_up (w_up S 53 fo nm) 49 fo sh) 51 fo i1) 52 fo r0) 48 fo = (S 48 fo)).trans ?_, (((w_up_slot (by first | decide | omega)).trans ((w_up_slot (by first | decide | omega)).trans (w_up_same _ _ _ _))) : (w_up (w_up (w_up (w_up S 53 fo nm) 49 fo sh) 51 fo i1) 52 fo r0) 49 fo = sh).trans ?_, (((w_up_slot (by first | decide | omega)).trans ((w_up_slot (by first | decide | omega)).trans ((w_up_slot (by first | decide | omega)).trans (w_up_slot (by first | decide | omega))))) : (w_up (w_up (w_up (w_up S 53 fo nm) 49 fo sh) 51 fo i1) 52 fo r0) 50 fo = (S 50 fo)).trans ?_, (((w_up_slot (by first | decide | omega)).trans (w_up_same _ _ _ _)) : (w_up (w_up (w_up (w_up S 53 fo nm) 49 fo sh) 51 fo i1) 52 fo r0) 51 fo = i1).trans ?_, ((w_up_same _ _ _ _) : (w_up (w_up (w_up (w_up S 53 fo nm) 49 fo sh) 51 fo i1) 52 fo r0) 52 fo = r0).trans ?_⟩, ((((w_up_slot (by first | decide | omega)).trans ((w_up_slot (by first | decide | omega)).trans ((w_up_slot (by first | decide | omega)).trans (w_up_same _ _ _ _)))) : (w_up (w_up (w_up (w_up S 53 fo nm) 49 fo sh) 51 fo i1) 52 fo r0) 53 fo = nm).trans ?_).trans eN.symm, ((((w_up_slot (by first | decide | omega)).trans ((w_up_slot (by first | decide | omega)).trans ((w_up_slot (by first | decide | omega)).trans (w_up_slot (by first | decide | omega))))) : (w_up (w_up (w_up (w_up S 53 fo nm) 49 fo sh) 51 fo i1) 52 fo r0) 54 fo = (S 54 fo)).trans ?_).trans eS.symm, ((((w_up_slot (by first | decide | omega)).trans ((w_up_slot (by first | decide | omega)).trans ((w_up_slot (by first | decide | omega)).trans (w_up_slot (by first | decide | omega))))) : (w_up (w_up (w_up (w_up S 53 fo nm) 49 fo sh) 51 fo i1) 52 fo r0) 55 fo = (S 55 fo)).trans ?_).trans eL.1.symm, ((((w_up_slot (by first | decide | omega)).trans ((w_up_slot (by first | decide | omega)).trans ((w_up_slot (by first | decide | omega)).trans (w_up_slot (by first | decide | omega))))) : (w_up (w_up (w_up (w_up S 53 fo nm) 49 fo sh) 51 fo i1) 52 fo r0) 56 fo = (S 56 fo)).trans ?_).trans eL.2.symm⟩
                    all_goals first | rfl | exact q1 | exact q3 | exact q5 | exact q7 | exact q8 | exact q9
                  exact ⟨rfl, Or.inr (Or.inl ⟨by omega, hr0, hcE, fun j x hj => ((w_up_no (by omega)).trans ((w_up_no (by omega)).trans ((w_up_no (by omega)).trans (w_up_no (by omega)))))⟩)⟩
                · skip
                  exact absurd c449 (by omega)
              · skip
                show wJ _ _ _ _ _ _ _ _ _ _
                refine wb_iast 52 rfl (wy_pr rfl) wt_52 (n := (S 48 (-1))) ((w_up_slot (by decide)).trans ((w_up_slot (by decide)).trans ((w_up_slot (by decide)).trans ((hl.2.2.1 4 (by decide)))))) (by omega) (by omega) ⟨(by omega), (by omega)⟩ ?_
                refine wa_aload_n (n := 0) rfl ?_
                refine wb_gf4 158 rfl (wy_pr rfl) wt_158 wf_5_3 (v := 47) wl_158_3 ?_
                refine wa_iconst ?_
                refine wb_aald5 47 4 rfl rfl (wy_pr rfl) wt_47 (by rw [show _ = _ from ((w_up_slot (by decide)).trans ((w_up_slot (by decide)).trans ((w_up_slot (by decide)).trans ((w_up_slot (by decide)).trans ((cl_47 hC))))))]; omega) wl_47_4 ?_
                refine wa_aload_n (n := 0) rfl ?_
                refine wa_fall ⟨_, rfl⟩ ?_
                refine wb_gfi 158 rfl (wy_pr rfl) wt_158 wf_5_14 (v := fo) ((w_up_slot (by decide)).trans ((w_up_slot (by decide)).trans ((w_up_slot (by decide)).trans ((w_up_slot (by decide)).trans (l14))))) (fun r450 => ?_)
                refine wb_iald 52 rfl (wy_pr rfl) wt_52 (n := (S 48 (-1))) ((w_up_at (by omega)).trans ((w_up_slot (by decide)).trans ((w_up_slot (by decide)).trans ((w_up_slot (by decide)).trans ((hl.2.2.1 4 (by decide))))))) (by omega) (by omega) (v := (-1)) (w_up_same _ _ _ _) (fun r451 => ?_)
                refine wa_iconst ?_
                refine wa_icmpne (w_rg0 (by omega) (by omega)) (w_rg0 (by omega) (by omega)) ⟨_, rfl⟩ (fun c452 => ?_) (fun c452 => ?_)
                · skip
                  exact absurd c452 (by omega)
                · skip
                  refine wa_aload_n (n := 0) rfl ?_
                  refine wb_gf5 158 rfl (wy_pr rfl) wt_158 wf_5_4 (v := 215) ((w_up_slot (by decide)).trans ((w_up_slot (by decide)).trans ((w_up_slot (by decide)).trans ((w_up_slot (by decide)).trans (l4))))) (fun r453 => ?_)
                  refine wa_bipush (w_rg2 (by omega) (by omega)) ?_
                  refine wb_pfi 215 rfl (wy_pr rfl) wt_215 wf_8_16 (n := 16) rfl ⟨(by omega), (by omega)⟩ ?_
                  refine wa_fall ⟨_, rfl⟩ ?_
                  refine wa_return rfl ?_
                  exact ⟨rfl, Or.inr (Or.inr (Or.inr ⟨by omega, hr0, by rw [← e15]; exact hu4, w_up_same _ _ _ _, fun j x hj => ((w_up_no (by unfold latM at hj; omega)).trans ((w_up_no (by unfold latM at hj; omega)).trans ((w_up_no (by unfold latM at hj; omega)).trans ((w_up_no (by unfold latM at hj; omega)).trans (w_up_no (by unfold latM at hj; omega))))))⟩))⟩
              · skip
                show wJ _ _ _ _ _ _ _ _ _ _
                refine wb_iast 52 rfl (wy_pr rfl) wt_52 (n := (S 48 (-1))) (((hns.2.2.2.2.1 52 (-1) (by decide) (by decide) (by decide) (Or.inl (by decide)) (Or.inl (by decide)) (Or.inl (by decide))).trans ((w_up_slot (by decide)).trans ((w_up_slot (by decide)).trans ((w_up_slot (by decide)).trans ((hl.2.2.1 4 (by decide)))))))) (by omega) (by omega) ⟨(by omega), (by omega)⟩ ?_
                refine wa_aload_n (n := 0) rfl ?_
                refine wb_gf4 158 rfl (wy_pr rfl) wt_158 wf_5_3 (v := 47) wl_158_3 ?_
                refine wa_iconst ?_
                refine wb_aald5 47 4 rfl rfl (wy_pr rfl) wt_47 (by rw [show _ = _ from ((w_up_slot (by decide)).trans (((hns.2.2.2.2.1 47 (-1) (by decide) (by decide) (by decide) (Or.inl (by decide)) (Or.inl (by decide)) (Or.inl (by decide))).trans ((w_up_slot (by decide)).trans ((w_up_slot (by decide)).trans ((w_up_slot (by decide)).trans ((cl_47 hC))))))))]; omega) wl_47_4 ?_
                refine wa_aload_n (n := 0) rfl ?_
                refine wa_fall ⟨_, rfl⟩ ?_
                refine wb_gfi 158 rfl (wy_pr rfl) wt_158 wf_5_14 (v := fo) ((w_up_slot (by decide)).trans (((hns.2.2.2.2.1 158 14 (by decide) (by decide) (by decide) (Or.inl (by decide)) (Or.inl (by decide)) (Or.inl (by decide))).trans ((w_up_slot (by decide)).trans ((w_up_slot (by decide)).trans ((w_up_slot (by decide)).trans (l14))))))) (fun r454 => ?_)
                refine wb_iald 52 rfl (wy_pr rfl) wt_52 (n := (S 48 (-1))) ((w_up_at (by omega)).trans (((hns.2.2.2.2.1 52 (-1) (by decide) (by decide) (by decide) (Or.inl (by decide)) (Or.inl (by decide)) (Or.inl (by decide))).trans ((w_up_slot (by decide)).trans ((w_up_slot (by decide)).trans ((w_up_slot (by decide)).trans ((hl.2.2.1 4 (by decide))))))))) (by omega) (by omega) (v := (H.length : Int)) (w_up_same _ _ _ _) (fun r455 => ?_)
                refine wa_iconst ?_
                refine wa_icmpne (w_rg0 (by omega) (by omega)) (w_rg0 (by omega) (by omega)) ⟨_, rfl⟩ (fun c456 => ?_) (fun c456 => ?_)
                · skip
                  refine wa_return rfl ?_
                  have hcE : cEc (w_up Sq445 52 fo (H.length : Int)) kd nms (stE T kd nm gb ch (H.length : Int)) fo := by
                    have eN := eN (H.length : Int)
                    have eS := eS (H.length : Int)
                    have eL := eL (H.length : Int)
                    rw [eE] at eN eS eL ⊢
                    refine ⟨⟨(((w_up_slot (by first | decide | omega)).trans (((hns.2.2.2.2.1 48 fo (by first | decide | omega) (by first | decide | omega) (by first | decide | omega) (Or.inl (by first | decide | omega)) (Or.inl (by first | decide | omega)) (Or.inl (by first | decide | omega))).trans ((w_up_slot (by first | decide | omega)).trans ((w_up_slot (by first | decide | omega)).trans (w_up_slot (by first | decide | omega))))))) : (w_up Sq445 52 fo (H.length : Int)) 48 fo = (S 48 fo)).trans ?_, (((w_up_slot (by first | decide | omega)).trans (((hns.2.2.2.2.1 49 fo (by first | decide | omega) (by first | decide | omega) (by first | decide | omega) (Or.inl (by first | decide | omega)) (Or.inl (by first | decide | omega)) (Or.inl (by first | decide | omega))).trans ((w_up_slot (by first | decide | omega)).trans (w_up_same _ _ _ _))))) : (w_up Sq445 52 fo (H.length : Int)) 49 fo = sh).trans ?_, (((w_up_slot (by first | decide | omega)).trans (((hns.2.2.2.2.1 50 fo (by first | decide | omega) (by first | decide | omega) (by first | decide | omega) (Or.inl (by first | decide | omega)) (Or.inl (by first | decide | omega)) (Or.inl (by first | decide | omega))).trans ((w_up_slot (by first | decide | omega)).trans ((w_up_slot (by first | decide | omega)).trans (w_up_slot (by first | decide | omega))))))) : (w_up Sq445 52 fo (H.length : Int)) 50 fo = (S 50 fo)).trans ?_, (((w_up_slot (by first | decide | omega)).trans (((hns.2.2.2.2.1 51 fo (by first | decide | omega) (by first | decide | omega) (by first | decide | omega) (Or.inl (by first | decide | omega)) (Or.inl (by first | decide | omega)) (Or.inl (by first | decide | omega))).trans (w_up_same _ _ _ _)))) : (w_up Sq445 52 fo (H.length : Int)) 51 fo = i1).trans ?_, ((w_up_same _ _ _ _) : (w_up Sq445 52 fo (H.length : Int)) 52 fo = (H.length : Int)).trans ?_⟩, ((((w_up_slot (by first | decide | omega)).trans (((hns.2.2.2.2.1 53 fo (by first | decide | omega) (by first | decide | omega) (by first | decide | omega) (Or.inl (by first | decide | omega)) (Or.inl (by first | decide | omega)) (Or.inl (by first | decide | omega))).trans ((w_up_slot (by first | decide | omega)).trans ((w_up_slot (by first | decide | omega)).trans (w_up_same _ _ _ _)))))) : (w_up Sq445 52 fo (H.length : Int)) 53 fo = nm).trans ?_).trans eN.symm, ((((w_up_slot (by first | decide | omega)).trans (((hns.2.2.2.2.1 54 fo (by first | decide | omega) (by first | decide | omega) (by first | decide | omega) (Or.inl (by first | decide | omega)) (Or.inl (by first | decide | omega)) (Or.inl (by first | decide | omega))).trans ((w_up_slot (by first | decide | omega)).trans ((w_up_slot (by first | decide | omega)).trans (w_up_slot (by first | decide | omega))))))) : (w_up Sq445 52 fo (H.length : Int)) 54 fo = (S 54 fo)).trans ?_).trans eS.symm, ((((w_up_slot (by first | decide | omega)).trans (((hns.2.2.2.2.1 55 fo (by first | decide | omega) (by first | decide | omega) (by first | decide | omega) (Or.inl (by first | decide | omega)) (Or.inl (by first | decide | omega)) (Or.inl (by first | decide | omega))).trans ((w_up_slot (by first | decide | omega)).trans ((w_up_slot (by first | decide | omega)).trans (w_up_slot (by first | decide | omega))))))) : (w_up Sq445 52 fo (H.length : Int)) 55 fo = (S 55 fo)).trans ?_).trans eL.1.symm, ((((w_up_slot (by first | decide | omega)).trans (((hns.2.2.2.2.1 56 fo (by first | decide | omega) (by first | decide | omega) (by first | decide | omega) (Or.inl (by first | decide | omega)) (Or.inl (by first | decide | omega)) (Or.inl (by first | decide | omega))).trans ((w_up_slot (by first | decide | omega)).trans ((w_up_slot (by first | decide | omega)).trans (w_up_slot (by first | decide | omega))))))) : (w_up Sq445 52 fo (H.length : Int)) 56 fo = (S 56 fo)).trans ?_).trans eL.2.symm⟩
                    all_goals first | rfl | exact q1 | exact q3 | exact q5 | exact q7 | exact q8 | exact q9
                  exact ⟨rfl, Or.inr (Or.inr (Or.inl ⟨by omega, hr0, by rw [← e15]; exact hu4, hcE, (w_up (w_up (w_up S 53 fo nm) 49 fo sh) 51 fo i1), Sq445, fX, hI2, hR2, hns, fun j x hj => w_up_no (by omega)⟩))⟩
                · skip
                  exact absurd c456 (by omega)
          · skip
            exfalso; omega
      · skip
        exfalso; omega
    · skip
      exfalso; omega
theorem latc_226 (hC : w_CL S) (hl : cSl S) (hW : cWd S T L G) (l4 : S 158 4 = 226) (l7 : S 158 7 = kd) (l9 : S 158 9 = gk) (l10 : S 158 10 = gb) (l11 : S 158 11 = nm) (l13 : S 158 13 = es) (l14 : S 158 14 = fo) (hfo : 0 ≤ fo ∧ fo < S 48 (-1)) (hT : (T.length : Int) ≤ 8000) (hq : isO T gb) (hkd : kd = 4 ∨ kd = 6) (hgk : gk = 4 ∨ gk = 5) : wJ (pe_GA xs) wY0 M d t_XL_lookAtThing ((pe_at t_XL_lookAtThing.bl 0).getD (0, [])).2 [(0, (2, 158)), (1, (0, gb))] [] S (fun o Z => o = .inl none ∧ ((gk = 5 ∧ w_up S 49 fo (tO T gb).2.2.1 = Z) ∨ (gk = 4 ∧ w_up (w_up S 49 fo (tO T gb).2.2.1) 226 16 5 = Z))) := by
  have h35 := hl.2.1
  have h48 := hl.2.2.2
  have hlt : cLt S T := hW.2.2.2.2.1
  have hth := hW.1
  have t2 := hlt.2
  have hq1 := hq.1
  have e29 : S 129 gb = (tO T gb).2.2.1 := (c_th hth hq1.1 hq1.2).1.2.2.1
  refine wa_aload_n (n := 0) rfl ?_
  refine wb_gfi 158 rfl (wy_pr rfl) wt_158 wf_5_7 (v := kd) (l7) (fun r1 => ?_)
  refine wa_iconst ?_
  refine wa_icmpeq (w_rg0 (by omega) (by omega)) (w_rg0 (by omega) (by omega)) ⟨_, rfl⟩ (fun c2 => ?_) (fun c2 => ?_)
  · skip
    refine wa_aload_n (n := 0) rfl ?_
    refine wb_gf4 158 rfl (wy_pr rfl) wt_158 wf_5_3 (v := 47) wl_158_3 ?_
    refine wa_iconst ?_
    refine wb_aald5 47 1 rfl rfl (wy_pr rfl) wt_47 (by rw [show _ = _ from ((cl_47 hC))]; omega) wl_47_1 ?_
    refine wa_aload_n (n := 0) rfl ?_
    refine wb_gfi 158 rfl (wy_pr rfl) wt_158 wf_5_14 (v := fo) (l14) (fun r3 => ?_)
    refine wa_aload_n (n := 0) rfl ?_
    refine wb_gf4 158 rfl (wy_pr rfl) wt_158 wf_5_0 (v := 72) wl_158_0 ?_
    refine wb_gf4 72 rfl (wy_pr rfl) wt_72 wf_2_2 (v := 126) wl_72_2 ?_
    refine wa_iconst ?_
    refine wb_aald5 126 2 rfl rfl (wy_pr rfl) wt_126 (by rw [show _ = _ from ((cl_126 hC))]; omega) wl_126_2 ?_
    refine wa_iload_n (n := 1) rfl ?_
    refine wb_iald 129 rfl (wy_pr rfl) wt_129 (n := (S 127 (-1))) ((hlt.1 2 (by decide))) (by omega) (by omega) (v := (tO T gb).2.2.1) (e29) (fun r4 => ?_)
    refine wb_iast 49 rfl (wy_pr rfl) wt_49 (n := (S 48 (-1))) ((hl.2.2.1 1 (by decide))) (by omega) (by omega) ⟨(by omega), (by omega)⟩ ?_
    refine wa_aload_n (n := 0) rfl ?_
    refine wb_gfi 158 rfl (wy_pr rfl) wt_158 wf_5_9 (v := gk) ((w_up_slot (by decide)).trans (l9)) (fun r5 => ?_)
    refine wa_iconst ?_
    refine wa_icmpeq (w_rg0 (by omega) (by omega)) (w_rg0 (by omega) (by omega)) ⟨_, rfl⟩ (fun c6 => ?_) (fun c6 => ?_)
    · skip
      refine wa_return rfl ?_
      exact ⟨rfl, Or.inl ⟨by omega, rfl⟩⟩
    · skip
      refine wa_aload_n (n := 0) rfl ?_
      refine wb_gf5 158 rfl (wy_pr rfl) wt_158 wf_5_4 (v := 226) ((w_up_slot (by decide)).trans (l4)) (fun r7 => ?_)
      refine wa_iconst ?_
      refine wb_pfi 226 rfl (wy_pr rfl) wt_226 wf_8_16 (n := 16) rfl ⟨(by omega), (by omega)⟩ ?_
      refine wa_fall ⟨_, rfl⟩ ?_
      refine wa_return rfl ?_
      exact ⟨rfl, Or.inr ⟨by omega, rfl⟩⟩
  · skip
    refine wa_aload_n (n := 0) rfl ?_
    refine wb_gfi 158 rfl (wy_pr rfl) wt_158 wf_5_7 (v := kd) (l7) (fun r8 => ?_)
    refine wa_bipush (w_rg2 (by omega) (by omega)) ?_
    refine wa_icmpne (w_rg0 (by omega) (by omega)) (w_rg0 (by omega) (by omega)) ⟨_, rfl⟩ (fun c9 => ?_) (fun c9 => ?_)
    · skip
      exfalso; omega
    · skip
      refine wa_fall ⟨_, rfl⟩ ?_
      refine wa_aload_n (n := 0) rfl ?_
      refine wb_gf4 158 rfl (wy_pr rfl) wt_158 wf_5_3 (v := 47) wl_158_3 ?_
      refine wa_iconst ?_
      refine wb_aald5 47 1 rfl rfl (wy_pr rfl) wt_47 (by rw [show _ = _ from ((cl_47 hC))]; omega) wl_47_1 ?_
      refine wa_aload_n (n := 0) rfl ?_
      refine wb_gfi 158 rfl (wy_pr rfl) wt_158 wf_5_14 (v := fo) (l14) (fun r10 => ?_)
      refine wa_aload_n (n := 0) rfl ?_
      refine wb_gf4 158 rfl (wy_pr rfl) wt_158 wf_5_0 (v := 72) wl_158_0 ?_
      refine wb_gf4 72 rfl (wy_pr rfl) wt_72 wf_2_2 (v := 126) wl_72_2 ?_
      refine wa_iconst ?_
      refine wb_aald5 126 2 rfl rfl (wy_pr rfl) wt_126 (by rw [show _ = _ from ((cl_126 hC))]; omega) wl_126_2 ?_
      refine wa_iload_n (n := 1) rfl ?_
      refine wb_iald 129 rfl (wy_pr rfl) wt_129 (n := (S 127 (-1))) ((hlt.1 2 (by decide))) (by omega) (by omega) (v := (tO T gb).2.2.1) (e29) (fun r11 => ?_)
      refine wb_iast 49 rfl (wy_pr rfl) wt_49 (n := (S 48 (-1))) ((hl.2.2.1 1 (by decide))) (by omega) (by omega) ⟨(by omega), (by omega)⟩ ?_
      refine wa_aload_n (n := 0) rfl ?_
      refine wb_gfi 158 rfl (wy_pr rfl) wt_158 wf_5_9 (v := gk) ((w_up_slot (by decide)).trans (l9)) (fun r12 => ?_)
      refine wa_iconst ?_
      refine wa_icmpeq (w_rg0 (by omega) (by omega)) (w_rg0 (by omega) (by omega)) ⟨_, rfl⟩ (fun c13 => ?_) (fun c13 => ?_)
      · skip
        refine wa_return rfl ?_
        exact ⟨rfl, Or.inl ⟨by omega, rfl⟩⟩
      · skip
        refine wa_aload_n (n := 0) rfl ?_
        refine wb_gf5 158 rfl (wy_pr rfl) wt_158 wf_5_4 (v := 226) ((w_up_slot (by decide)).trans (l4)) (fun r14 => ?_)
        refine wa_iconst ?_
        refine wb_pfi 226 rfl (wy_pr rfl) wt_226 wf_8_16 (n := 16) rfl ⟨(by omega), (by omega)⟩ ?_
        refine wa_fall ⟨_, rfl⟩ ?_
        refine wa_return rfl ?_
        exact ⟨rfl, Or.inr ⟨by omega, rfl⟩⟩
theorem latn_226 (hC : w_CL S) (hl : cSl S) (hW : cWd S T L G) (l4 : S 158 4 = 226) (l7 : S 158 7 = kd) (l9 : S 158 9 = gk) (l10 : S 158 10 = gb) (l11 : S 158 11 = nm) (l13 : S 158 13 = es) (l14 : S 158 14 = fo) (hfo : 0 ≤ fo ∧ fo < S 48 (-1)) (hT : (T.length : Int) ≤ 8000) (hq : isO T gb) (hkd : kd ≠ 4 ∧ kd ≠ 6) (hnm : nm = -1) : wJ (pe_GA xs) wY0 M d t_XL_lookAtThing ((pe_at t_XL_lookAtThing.bl 0).getD (0, [])).2 [(0, (2, 158)), (1, (0, gb))] [] S (fun o Z => o = .inl none ∧ w_up S 226 16 6 = Z) := by
  have h35 := hl.2.1
  have h48 := hl.2.2.2
  have hlt : cLt S T := hW.2.2.2.2.1
  have hth := hW.1
  have t2 := hlt.2
  have hq1 := hq.1
  refine wa_aload_n (n := 0) rfl ?_
  refine wb_gfi 158 rfl (wy_pr rfl) wt_158 wf_5_7 (v := kd) (l7) (fun r1 => ?_)
  refine wa_iconst ?_
  refine wa_icmpeq (w_rg0 (by omega) (by omega)) (w_rg0 (by omega) (by omega)) ⟨_, rfl⟩ (fun c2 => ?_) (fun c2 => ?_)
  · skip
    exfalso; omega
  · skip
    refine wa_aload_n (n := 0) rfl ?_
    refine wb_gfi 158 rfl (wy_pr rfl) wt_158 wf_5_7 (v := kd) (l7) (fun r3 => ?_)
    refine wa_bipush (w_rg2 (by omega) (by omega)) ?_
    refine wa_icmpne (w_rg0 (by omega) (by omega)) (w_rg0 (by omega) (by omega)) ⟨_, rfl⟩ (fun c4 => ?_) (fun c4 => ?_)
    · skip
      refine wa_aload_n (n := 0) rfl ?_
      refine wb_gfi 158 rfl (wy_pr rfl) wt_158 wf_5_11 (v := nm) (l11) (fun r5 => ?_)
      refine wa_iconst ?_
      refine wa_icmpne (w_rg0 (by omega) (by omega)) (w_rg0 (by omega) (by omega)) ⟨_, rfl⟩ (fun c6 => ?_) (fun c6 => ?_)
      · skip
        exfalso; omega
      · skip
        refine wa_aload_n (n := 0) rfl ?_
        refine wb_gf5 158 rfl (wy_pr rfl) wt_158 wf_5_4 (v := 226) (l4) (fun r7 => ?_)
        refine wa_bipush (w_rg2 (by omega) (by omega)) ?_
        refine wb_pfi 226 rfl (wy_pr rfl) wt_226 wf_8_16 (n := 16) rfl ⟨(by omega), (by omega)⟩ ?_
        refine wa_return rfl ?_
        exact ⟨rfl, rfl⟩
    · skip
      exfalso; omega
set_option maxHeartbeats 4000000 in
theorem latg_226 {ch : Int} (hC : w_CL S) (hl : cSl S) (hW : cWd S T L G) (l4 : S 158 4 = 226) (l7 : S 158 7 = kd) (l9 : S 158 9 = gk) (l10 : S 158 10 = gb) (l11 : S 158 11 = nm) (l13 : S 158 13 = es) (l14 : S 158 14 = fo) (hfo : 0 ≤ fo ∧ fo < S 48 (-1)) (hT : (T.length : Int) ≤ 8000) (hq : isO T gb) (hsw : cSw S T H) (hw : wSh T H) (hnm : 0 ≤ nm ∧ nm ≤ 100000) (hne : nmE kd nms nm) (h11 : S 72 11 = ch) (hch : 0 ≤ ch ∧ ch ≤ 10000000) (hbl : blE 0 fo S) (hkd : kd = 0 ∨ kd = 2 ∨ kd = 5) : wJ (pe_GA xs) wY0 M (d + 2) t_XL_lookAtThing ((pe_at t_XL_lookAtThing.bl 0).getD (0, [])).2 [(0, (2, 158)), (1, (0, gb))] [] S (fun o Z => o = .inl none ∧ cEc Z kd nms (gtE T H kd nm gb ch) fo ∧ ∀ (j : Nat) (x : Int), ¬ (48 ≤ j ∧ j ≤ 56 ∧ x = fo) → Z j x = S j x) := by
  have h35 := hl.2.1
  have h48 := hl.2.2.2
  have hlt : cLt S T := hW.2.2.2.2.1
  have hth := hW.1
  have t2 := hlt.2
  have hq1 := hq.1
  have e28 : S 128 gb = (tO T gb).2.1 := (c_th hth hq1.1 hq1.2).1.2.1
  have hs8 := c_hs hsw.1 hth hw gb hq1.1 hq1.2 hq
  rw [e28] at hs8
  obtain ⟨-, hz2, -, hz4⟩ := hsw.2.1
  obtain ⟨sh, hsh⟩ : ∃ i : Int, i = (tO T gb).2.1 := ⟨_, rfl⟩
  rw [← hsh] at e28 hs8
  obtain ⟨⟨q1, q2, q3, q4, q5⟩, q6, q7, q8, q9⟩ := id hbl
  obtain ⟨up, hup⟩ : ∃ i : Int, i = aUp T H nm gb := ⟨_, rfl⟩
  have hur := aUp_rg (nm := nm) hw hq
  rw [← hup] at hur
  have hub : -1 ≤ up ∧ up < (T.length : Int) := by rcases hur with z | z; omega; have := z.1.1; omega
  obtain ⟨i3, hi3⟩ : ∃ i : Int, i = aIx T nm up := ⟨_, rfl⟩
  have hr3 := aIx_rg (T := T) (nm := nm) (k := up)
  rw [← hi3] at hr3
  have hl3 : up ≠ -1 → i3 < 100 ∧ i3 ≠ -1 := fun z => by
    have y := hur.resolve_left z
    have := (hw.2.2.2.1 up y.1).2
    rw [← hi3] at y
    omega
  have eE : gtE T H kd nm gb ch = (0, sh, enE kd nm, (if up = gb then -1 else up), (if up = -1 then -1 else i3), -1, ch, 0, 0) := by
    unfold gtE; rw [hi3, hup, hsh]
  have eN : cNm kd nms (gtE T H kd nm gb ch) = nm := cNm_e rfl (by omega) hne rfl
  have eS : eSn kd (gtE T H kd nm gb ch) = (if up = gb then -1 else ch) := by
    rw [eE]
    unfold eSn
    by_cases c : up = gb
    · rw [if_pos c, if_pos c]
      refine if_neg (fun z => z.2.2 ⟨?_, rfl⟩)
      show 0 ≤ (if up = -1 then -1 else i3)
      rw [if_neg (by omega)]
      have := hl3 (by omega)
      omega
    · rw [if_neg c, if_neg c]
      refine if_pos ⟨rfl, hkd, fun z => ?_⟩
      have z1 : 0 ≤ (if up = -1 then -1 else i3) := z.1
      have z2 : up = -1 := z.2
      rw [if_pos z2] at z1
      omega
  have eL : cLo kd (gtE T H kd nm gb ch) = -1 ∧ cHi kd (gtE T H kd nm gb ch) = -1 := ⟨if_neg (fun z => by rcases z.1 with y | y; exact absurd y (show ¬ ((0 : Int) = 1) by decide); exact absurd y (show ¬ ((0 : Int) = 2) by decide)), if_neg (fun z => by rcases z.1 with y | y; exact absurd y (show ¬ ((0 : Int) = 1) by decide); exact absurd y (show ¬ ((0 : Int) = 2) by decide))⟩
  refine wa_aload_n (n := 0) rfl ?_
  refine wb_gfi 158 rfl (wy_pr rfl) wt_158 wf_5_7 (v := kd) (l7) (fun r1 => ?_)
  refine wa_iconst ?_
  refine wa_icmpeq (w_rg0 (by omega) (by omega)) (w_rg0 (by omega) (by omega)) ⟨_, rfl⟩ (fun c2 => ?_) (fun c2 => ?_)
  · skip
    exfalso; omega
  · skip
    refine wa_aload_n (n := 0) rfl ?_
    refine wb_gfi 158 rfl (wy_pr rfl) wt_158 wf_5_7 (v := kd) (l7) (fun r3 => ?_)
    refine wa_bipush (w_rg2 (by omega) (by omega)) ?_
    refine wa_icmpne (w_rg0 (by omega) (by omega)) (w_rg0 (by omega) (by omega)) ⟨_, rfl⟩ (fun c4 => ?_) (fun c4 => ?_)
    · skip
      refine wa_aload_n (n := 0) rfl ?_
      refine wb_gfi 158 rfl (wy_pr rfl) wt_158 wf_5_11 (v := nm) (l11) (fun r5 => ?_)
      refine wa_iconst ?_
      refine wa_icmpne (w_rg0 (by omega) (by omega)) (w_rg0 (by omega) (by omega)) ⟨_, rfl⟩ (fun c6 => ?_) (fun c6 => ?_)
      · skip
        refine wa_aload_n (n := 0) rfl ?_
        refine wb_gf4 158 rfl (wy_pr rfl) wt_158 wf_5_0 (v := 72) wl_158_0 ?_
        refine wb_gf4 72 rfl (wy_pr rfl) wt_72 wf_2_2 (v := 126) wl_72_2 ?_
        refine wa_iconst ?_
        refine wb_aald5 126 1 rfl rfl (wy_pr rfl) wt_126 (by rw [show _ = _ from ((cl_126 hC))]; omega) wl_126_1 ?_
        refine wa_iload_n (n := 1) rfl ?_
        refine wb_iald 128 rfl (wy_pr rfl) wt_128 (n := (S 127 (-1))) ((hlt.1 1 (by decide))) (by omega) (by omega) (v := sh) (e28) (fun r7 => ?_)
        refine wa_istore_n (n := 2) rfl ?_
        refine wa_aload_n (n := 0) rfl ?_
        refine wb_gf4 158 rfl (wy_pr rfl) wt_158 wf_5_3 (v := 47) wl_158_3 ?_
        refine wa_iconst ?_
        refine wb_aald5 47 5 rfl rfl (wy_pr rfl) wt_47 (by rw [show _ = _ from ((cl_47 hC))]; omega) wl_47_5 ?_
        refine wa_aload_n (n := 0) rfl ?_
        refine wb_gfi 158 rfl (wy_pr rfl) wt_158 wf_5_14 (v := fo) (l14) (fun r8 => ?_)
        refine wa_aload_n (n := 0) rfl ?_
        refine wb_gfi 158 rfl (wy_pr rfl) wt_158 wf_5_11 (v := nm) (l11) (fun r9 => ?_)
        refine wb_iast 53 rfl (wy_pr rfl) wt_53 (n := (S 48 (-1))) ((hl.2.2.1 5 (by decide))) (by omega) (by omega) ⟨(by omega), (by omega)⟩ ?_
        refine wa_aload_n (n := 0) rfl ?_
        refine wb_gf4 158 rfl (wy_pr rfl) wt_158 wf_5_3 (v := 47) wl_158_3 ?_
        refine wa_iconst ?_
        refine wb_aald5 47 1 rfl rfl (wy_pr rfl) wt_47 (by rw [show _ = _ from ((w_up_slot (by decide)).trans ((cl_47 hC)))]; omega) wl_47_1 ?_
        refine wa_aload_n (n := 0) rfl ?_
        refine wb_gfi 158 rfl (wy_pr rfl) wt_158 wf_5_14 (v := fo) ((w_up_slot (by decide)).trans (l14)) (fun r10 => ?_)
        refine wa_iload_n (n := 2) rfl ?_
        refine wb_iast 49 rfl (wy_pr rfl) wt_49 (n := (S 48 (-1))) ((w_up_slot (by decide)).trans ((hl.2.2.1 1 (by decide)))) (by omega) (by omega) ⟨(by omega), (by omega)⟩ ?_
        refine wa_aload_n (n := 0) rfl ?_
        refine wb_gfi 158 rfl (wy_pr rfl) wt_158 wf_5_7 (v := kd) ((w_up_slot (by decide)).trans ((w_up_slot (by decide)).trans (l7))) (fun r11 => ?_)
        refine wa_iconst ?_
        refine wa_icmpeq (w_rg0 (by omega) (by omega)) (w_rg0 (by omega) (by omega)) ⟨_, rfl⟩ (fun c12 => ?_) (fun c12 => ?_)
        · skip
          exfalso; omega
        · skip
          refine wa_aload_n (n := 0) rfl ?_
          refine wb_gfi 158 rfl (wy_pr rfl) wt_158 wf_5_7 (v := kd) ((w_up_slot (by decide)).trans ((w_up_slot (by decide)).trans (l7))) (fun r13 => ?_)
          refine wa_iconst ?_
          refine wa_icmpeq (w_rg0 (by omega) (by omega)) (w_rg0 (by omega) (by omega)) ⟨_, rfl⟩ (fun c14 => ?_) (fun c14 => ?_)
          · skip
            exfalso; omega
          · skip
            refine wa_aload_n (n := 0) rfl ?_
            refine wb_gf4 158 rfl (wy_pr rfl) wt_158 wf_5_0 (v := 72) wl_158_0 ?_
            refine wa_iload_n (n := 1) rfl ?_
            refine wa_aload_n (n := 0) rfl ?_
            refine wb_gfi 158 rfl (wy_pr rfl) wt_158 wf_5_11 (v := nm) ((w_up_slot (by decide)).trans ((w_up_slot (by decide)).trans (l11))) (fun r15 => ?_)
            have fX : ∀ (j : Nat) (x : Int), (j < 48 ∨ 56 < j) → (w_up (w_up S 53 fo nm) 49 fo sh) j x = S j x := (fun j x hj => ((w_up_no (by omega)).trans (w_up_no (by omega))))
            have hC2 : w_CL (w_up (w_up S 53 fo nm) 49 fo sh) := w_CL_up (w_CL_up (hC) hfo.1) hfo.1
            have hsw2 : cSw (w_up (w_up S 53 fo nm) 49 fo sh) T H := cSw_ag hsw (fun j x hj => fX j x (by omega))
            have hW2 : cWd (w_up (w_up S 53 fo nm) 49 fo sh) T L G := cWd_ag hW (cTx_of (fX 2 1 (by first | decide | omega)) (fun x => fX 3 x (by first | decide | omega))) (fun j x hj => fX j x (by unfold cWo at hj; omega))
            refine wa_cv 72 rfl (wy_pr rfl) wt_72 (M2 := fun _ => False) rfl at_XH_holderOf ⟨_, rfl⟩ rfl rfl ⟨trivial, (Or.inr ⟨wy_pr rfl, fun q => q⟩), trivial, trivial⟩ trivial (fun _ _ q => False.elim q) (wJ_mono (c_ho (S := (w_up (w_up S 53 fo nm) 49 fo sh)) hC2 hsw2 hW2.1 hW2.2.2.2.2.1 hw hq ⟨by omega, by omega⟩) (fun o Z hz => (⟨hz.1, by rw [hup]; exact hz.2⟩ : (w_up (w_up S 53 fo nm) 49 fo sh) = Z ∧ o = .inl (some (0, up))))) (fun oq16 Sq16 hp17 q16 => ?_)
            rcases q16 with ⟨rfl, rfl⟩
            show wJ _ _ _ _ _ _ _ _ _ _
            refine wa_istore_n (n := 3) rfl ?_
            refine wa_fall ⟨_, rfl⟩ ?_
            refine wa_iload_n (n := 3) rfl ?_
            refine wa_iconst ?_
            refine wa_icmpeq (w_rg0 (by omega) (by omega)) (w_rg0 (by omega) (by omega)) ⟨_, rfl⟩ (fun c18 => ?_) (fun c18 => ?_)
            · skip
              refine wa_iload_n (n := 3) rfl ?_
              refine wa_iload_n (n := 1) rfl ?_
              refine wa_icmpeq (w_rg0 (by omega) (by omega)) (w_rg0 (by omega) (by omega)) ⟨_, rfl⟩ (fun c19 => ?_) (fun c19 => ?_)
              · skip
                refine wa_return rfl ?_
                refine ⟨rfl, ?_, fun j x hj => ((w_up_no (by omega)).trans (w_up_no (by omega)))⟩
                rw [eE] at eN eS eL ⊢
                refine ⟨⟨(((w_up_slot (by first | decide | omega)).trans (w_up_slot (by first | decide | omega))) : (w_up (w_up S 53 fo nm) 49 fo sh) 48 fo = (S 48 fo)).trans ?_, ((w_up_same _ _ _ _) : (w_up (w_up S 53 fo nm) 49 fo sh) 49 fo = sh).trans ?_, (((w_up_slot (by first | decide | omega)).trans (w_up_slot (by first | decide | omega))) : (w_up (w_up S 53 fo nm) 49 fo sh) 50 fo = (S 50 fo)).trans ?_, (((w_up_slot (by first | decide | omega)).trans (w_up_slot (by first | decide | omega))) : (w_up (w_up S 53 fo nm) 49 fo sh) 51 fo = (S 51 fo)).trans ?_, (((w_up_slot (by first | decide | omega)).trans (w_up_slot (by first | decide | omega))) : (w_up (w_up S 53 fo nm) 49 fo sh) 52 fo = (S 52 fo)).trans ?_⟩, ((((w_up_slot (by first | decide | omega)).trans (w_up_same _ _ _ _)) : (w_up (w_up S 53 fo nm) 49 fo sh) 53 fo = nm).trans ?_).trans eN.symm, ((((w_up_slot (by first | decide | omega)).trans (w_up_slot (by first | decide | omega))) : (w_up (w_up S 53 fo nm) 49 fo sh) 54 fo = (S 54 fo)).trans ?_).trans eS.symm, ((((w_up_slot (by first | decide | omega)).trans (w_up_slot (by first | decide | omega))) : (w_up (w_up S 53 fo nm) 49 fo sh) 55 fo = (S 55 fo)).trans ?_).trans eL.1.symm, ((((w_up_slot (by first | decide | omega)).trans (w_up_slot (by first | decide | omega))) : (w_up (w_up S 53 fo nm) 49 fo sh) 56 fo = (S 56 fo)).trans ?_).trans eL.2.symm⟩
                all_goals first | rfl | exact q1 | exact q3 | exact q4 | exact q5 | exact q7 | exact q8 | exact q9 | exact (if_pos (by omega)).symm | exact (if_neg (by omega)).symm | exact q4.trans (if_pos (by omega)).symm | exact q3.trans (if_pos (by omega)).symm | exact q7.trans (if_pos (by omega)).symm
              · skip
                refine wa_aload_n (n := 0) rfl ?_
                refine wb_gf4 158 rfl (wy_pr rfl) wt_158 wf_5_3 (v := 47) wl_158_3 ?_
                refine wa_iconst ?_
                refine wb_aald5 47 2 rfl rfl (wy_pr rfl) wt_47 (by rw [show _ = _ from ((w_up_slot (by decide)).trans ((w_up_slot (by decide)).trans ((cl_47 hC))))]; omega) wl_47_2 ?_
                refine wa_aload_n (n := 0) rfl ?_
                refine wb_gfi 158 rfl (wy_pr rfl) wt_158 wf_5_14 (v := fo) ((w_up_slot (by decide)).trans ((w_up_slot (by decide)).trans (l14))) (fun r20 => ?_)
                refine wa_iload_n (n := 3) rfl ?_
                refine wb_iast 50 rfl (wy_pr rfl) wt_50 (n := (S 48 (-1))) ((w_up_slot (by decide)).trans ((w_up_slot (by decide)).trans ((hl.2.2.1 2 (by decide))))) (by omega) (by omega) ⟨(by omega), (by omega)⟩ ?_
                refine wa_aload_n (n := 0) rfl ?_
                refine wb_gf4 158 rfl (wy_pr rfl) wt_158 wf_5_3 (v := 47) wl_158_3 ?_
                refine wa_bipush (w_rg2 (by omega) (by omega)) ?_
                refine wb_aald5 47 6 rfl rfl (wy_pr rfl) wt_47 (by rw [show _ = _ from ((w_up_slot (by decide)).trans ((w_up_slot (by decide)).trans ((w_up_slot (by decide)).trans ((cl_47 hC)))))]; omega) wl_47_6 ?_
                refine wa_aload_n (n := 0) rfl ?_
                refine wb_gfi 158 rfl (wy_pr rfl) wt_158 wf_5_14 (v := fo) ((w_up_slot (by decide)).trans ((w_up_slot (by decide)).trans ((w_up_slot (by decide)).trans (l14)))) (fun r21 => ?_)
                refine wa_aload_n (n := 0) rfl ?_
                refine wb_gf4 158 rfl (wy_pr rfl) wt_158 wf_5_0 (v := 72) wl_158_0 ?_
                refine wb_gfi 72 rfl (wy_pr rfl) wt_72 wf_2_11 (v := ch) ((w_up_slot (by decide)).trans ((w_up_slot (by decide)).trans ((w_up_slot (by decide)).trans (h11)))) (fun r22 => ?_)
                refine wb_iast 54 rfl (wy_pr rfl) wt_54 (n := (S 48 (-1))) ((w_up_slot (by decide)).trans ((w_up_slot (by decide)).trans ((w_up_slot (by decide)).trans ((hl.2.2.1 6 (by decide)))))) (by omega) (by omega) ⟨(by omega), (by omega)⟩ ?_
                refine wa_fall ⟨_, rfl⟩ ?_
                refine wa_return rfl ?_
                refine ⟨rfl, ?_, fun j x hj => ((w_up_no (by omega)).trans ((w_up_no (by omega)).trans ((w_up_no (by omega)).trans (w_up_no (by omega)))))⟩
                rw [eE] at eN eS eL ⊢
                refine ⟨⟨(((w_up_slot (by first | decide | omega)).trans ((w_up_slot (by first | decide | omega)).trans ((w_up_slot (by first | decide | omega)).trans (w_up_slot (by first | decide | omega))))) : (w_up (w_up (w_up (w_up S 53 fo nm) 49 fo sh) 50 fo up) 54 fo ch) 48 fo = (S 48 fo)).trans ?_, (((w_up_slot (by first | decide | omega)).trans ((w_up_slot (by first | decide | omega)).trans (w_up_same _ _ _ _))) : (w_up (w_up (w_up (w_up S 53 fo nm) 49 fo sh) 50 fo up) 54 fo ch) 49 fo = sh).trans ?_, (((w_up_slot (by first | decide | omega)).trans (w_up_same _ _ _ _)) : (w_up (w_up (w_up (w_up S 53 fo nm) 49 fo sh) 50 fo up) 54 fo ch) 50 fo = up).trans ?_, (((w_up_slot (by first | decide | omega)).trans ((w_up_slot (by first | decide | omega)).trans ((w_up_slot (by first | decide | omega)).trans (w_up_slot (by first | decide | omega))))) : (w_up (w_up (w_up (w_up S 53 fo nm) 49 fo sh) 50 fo up) 54 fo ch) 51 fo = (S 51 fo)).trans ?_, (((w_up_slot (by first | decide | omega)).trans ((w_up_slot (by first | decide | omega)).trans ((w_up_slot (by first | decide | omega)).trans (w_up_slot (by first | decide | omega))))) : (w_up (w_up (w_up (w_up S 53 fo nm) 49 fo sh) 50 fo up) 54 fo ch) 52 fo = (S 52 fo)).trans ?_⟩, ((((w_up_slot (by first | decide | omega)).trans ((w_up_slot (by first | decide | omega)).trans ((w_up_slot (by first | decide | omega)).trans (w_up_same _ _ _ _)))) : (w_up (w_up (w_up (w_up S 53 fo nm) 49 fo sh) 50 fo up) 54 fo ch) 53 fo = nm).trans ?_).trans eN.symm, (((w_up_same _ _ _ _) : (w_up (w_up (w_up (w_up S 53 fo nm) 49 fo sh) 50 fo up) 54 fo ch) 54 fo = ch).trans ?_).trans eS.symm, ((((w_up_slot (by first | decide | omega)).trans ((w_up_slot (by first | decide | omega)).trans ((w_up_slot (by first | decide | omega)).trans (w_up_slot (by first | decide | omega))))) : (w_up (w_up (w_up (w_up S 53 fo nm) 49 fo sh) 50 fo up) 54 fo ch) 55 fo = (S 55 fo)).trans ?_).trans eL.1.symm, ((((w_up_slot (by first | decide | omega)).trans ((w_up_slot (by first | decide | omega)).trans ((w_up_slot (by first | decide | omega)).trans (w_up_slot (by first | decide | omega))))) : (w_up (w_up (w_up (w_up S 53 fo nm) 49 fo sh) 50 fo up) 54 fo ch) 56 fo = (S 56 fo)).trans ?_).trans eL.2.symm⟩
                all_goals first | rfl | exact q1 | exact q3 | exact q4 | exact q5 | exact q7 | exact q8 | exact q9 | exact (if_pos (by omega)).symm | exact (if_neg (by omega)).symm | exact q4.trans (if_pos (by omega)).symm | exact q3.trans (if_pos (by omega)).symm | exact q7.trans (if_pos (by omega)).symm
            · skip
              have hl3b := hl3 (by omega)
              refine wa_aload_n (n := 0) rfl ?_
              refine wb_gf4 158 rfl (wy_pr rfl) wt_158 wf_5_3 (v := 47) wl_158_3 ?_
              refine wa_iconst ?_
              refine wb_aald5 47 3 rfl rfl (wy_pr rfl) wt_47 (by rw [show _ = _ from ((w_up_slot (by decide)).trans ((w_up_slot (by decide)).trans ((cl_47 hC))))]; omega) wl_47_3 ?_
              refine wa_aload_n (n := 0) rfl ?_
              refine wb_gfi 158 rfl (wy_pr rfl) wt_158 wf_5_14 (v := fo) ((w_up_slot (by decide)).trans ((w_up_slot (by decide)).trans (l14))) (fun r23 => ?_)
              refine wa_aload_n (n := 0) rfl ?_
              refine wb_gf4 158 rfl (wy_pr rfl) wt_158 wf_5_0 (v := 72) wl_158_0 ?_
              refine wa_aload_n (n := 0) rfl ?_
              refine wb_gf4 158 rfl (wy_pr rfl) wt_158 wf_5_0 (v := 72) wl_158_0 ?_
              refine wb_gf4 72 rfl (wy_pr rfl) wt_72 wf_2_2 (v := 126) wl_72_2 ?_
              refine wa_iconst ?_
              refine wb_aald5 126 1 rfl rfl (wy_pr rfl) wt_126 (by rw [show _ = _ from ((w_up_slot (by decide)).trans ((w_up_slot (by decide)).trans ((cl_126 hC))))]; omega) wl_126_1 ?_
              refine wa_iload_n (n := 3) rfl ?_
              refine wb_iald 128 rfl (wy_pr rfl) wt_128 (n := (S 127 (-1))) ((w_up_slot (by decide)).trans ((w_up_slot (by decide)).trans ((hlt.1 1 (by decide))))) (by omega) (by omega) (v := (S 128 up)) ((w_up_slot (by decide)).trans (w_up_slot (by decide))) (fun r24 => ?_)
              refine wa_aload_n (n := 0) rfl ?_
              refine wb_gfi 158 rfl (wy_pr rfl) wt_158 wf_5_11 (v := nm) ((w_up_slot (by decide)).trans ((w_up_slot (by decide)).trans (l11))) (fun r25 => ?_)
              refine wa_cv 72 rfl (wy_pr rfl) wt_72 (M2 := fun _ => False) rfl at_XH_indexIn ⟨_, rfl⟩ rfl rfl ⟨trivial, trivial, (Or.inr ⟨wy_pr rfl, fun q => q⟩), trivial, trivial⟩ ⟨trivial, (Or.inr ⟨wy_pr rfl, fun q => q⟩), trivial⟩ (fun _ _ q => False.elim q) (wJ_mono (c_ixo (S := (w_up (w_up S 53 fo nm) 49 fo sh)) (k := up) hC2 hsw2 hW2.1 hw (hur.resolve_left (by omega)).1 (fX 128 up (by decide)).symm ⟨by omega, by omega⟩) (fun o Z hz => (⟨hz.1, by rw [hi3]; exact hz.2⟩ : (w_up (w_up S 53 fo nm) 49 fo sh) = Z ∧ o = .inl (some (0, i3))))) (fun oq26 Sq26 hp27 q26 => ?_)
              rcases q26 with ⟨rfl, rfl⟩
              show wJ _ _ _ _ _ _ _ _ _ _
              refine wb_iast 51 rfl (wy_pr rfl) wt_51 (n := (S 48 (-1))) ((w_up_slot (by decide)).trans ((w_up_slot (by decide)).trans ((hl.2.2.1 3 (by decide))))) (by omega) (by omega) ⟨(by omega), (by omega)⟩ ?_
              refine wa_fall ⟨_, rfl⟩ ?_
              refine wa_iload_n (n := 3) rfl ?_
              refine wa_iload_n (n := 1) rfl ?_
              refine wa_icmpeq (w_rg0 (by omega) (by omega)) (w_rg0 (by omega) (by omega)) ⟨_, rfl⟩ (fun c28 => ?_) (fun c28 => ?_)
              · skip
                refine wa_return rfl ?_
                refine ⟨rfl, ?_, fun j x hj => ((w_up_no (by omega)).trans ((w_up_no (by omega)).trans (w_up_no (by omega))))⟩
                rw [eE] at eN eS eL ⊢
                refine ⟨⟨(((w_up_slot (by first | decide | omega)).trans ((w_up_slot (by first | decide | omega)).trans (w_up_slot (by first | decide | omega)))) : (w_up (w_up (w_up S 53 fo nm) 49 fo sh) 51 fo i3) 48 fo = (S 48 fo)).trans ?_, (((w_up_slot (by first | decide | omega)).trans (w_up_same _ _ _ _)) : (w_up (w_up (w_up S 53 fo nm) 49 fo sh) 51 fo i3) 49 fo = sh).trans ?_, (((w_up_slot (by first | decide | omega)).trans ((w_up_slot (by first | decide | omega)).trans (w_up_slot (by first | decide | omega)))) : (w_up (w_up (w_up S 53 fo nm) 49 fo sh) 51 fo i3) 50 fo = (S 50 fo)).trans ?_, ((w_up_same _ _ _ _) : (w_up (w_up (w_up S 53 fo nm) 49 fo sh) 51 fo i3) 51 fo = i3).trans ?_, (((w_up_slot (by first | decide | omega)).trans ((w_up_slot (by first | decide | omega)).trans (w_up_slot (by first | decide | omega)))) : (w_up (w_up (w_up S 53 fo nm) 49 fo sh) 51 fo i3) 52 fo = (S 52 fo)).trans ?_⟩, ((((w_up_slot (by first | decide | omega)).trans ((w_up_slot (by first | decide | omega)).trans (w_up_same _ _ _ _))) : (w_up (w_up (w_up S 53 fo nm) 49 fo sh) 51 fo i3) 53 fo = nm).trans ?_).trans eN.symm, ((((w_up_slot (by first | decide | omega)).trans ((w_up_slot (by first | decide | omega)).trans (w_up_slot (by first | decide | omega)))) : (w_up (w_up (w_up S 53 fo nm) 49 fo sh) 51 fo i3) 54 fo = (S 54 fo)).trans ?_).trans eS.symm, ((((w_up_slot (by first | decide | omega)).trans ((w_up_slot (by first | decide | omega)).trans (w_up_slot (by first | decide | omega)))) : (w_up (w_up (w_up S 53 fo nm) 49 fo sh) 51 fo i3) 55 fo = (S 55 fo)).trans ?_).trans eL.1.symm, ((((w_up_slot (by first | decide | omega)).trans ((w_up_slot (by first | decide | omega)).trans (w_up_slot (by first | decide | omega)))) : (w_up (w_up (w_up S 53 fo nm) 49 fo sh) 51 fo i3) 56 fo = (S 56 fo)).trans ?_).trans eL.2.symm⟩
                all_goals first | rfl | exact q1 | exact q3 | exact q4 | exact q5 | exact q7 | exact q8 | exact q9 | exact (if_pos (by omega)).symm | exact (if_neg (by omega)).symm | exact q4.trans (if_pos (by omega)).symm | exact q3.trans (if_pos (by omega)).symm | exact q7.trans (if_pos (by omega)).symm
              · skip
                refine wa_aload_n (n := 0) rfl ?_
                refine wb_gf4 158 rfl (wy_pr rfl) wt_158 wf_5_3 (v := 47) wl_158_3 ?_
                refine wa_iconst ?_
                refine wb_aald5 47 2 rfl rfl (wy_pr rfl) wt_47 (by rw [show _ = _ from ((w_up_slot (by decide)).trans ((w_up_slot (by decide)).trans ((w_up_slot (by decide)).trans ((cl_47 hC)))))]; omega) wl_47_2 ?_
                refine wa_aload_n (n := 0) rfl ?_
                refine wb_gfi 158 rfl (wy_pr rfl) wt_158 wf_5_14 (v := fo) ((w_up_slot (by decide)).trans ((w_up_slot (by decide)).trans ((w_up_slot (by decide)).trans (l14)))) (fun r29 => ?_)
                refine wa_iload_n (n := 3) rfl ?_
                refine wb_iast 50 rfl (wy_pr rfl) wt_50 (n := (S 48 (-1))) ((w_up_slot (by decide)).trans ((w_up_slot (by decide)).trans ((w_up_slot (by decide)).trans ((hl.2.2.1 2 (by decide)))))) (by omega) (by omega) ⟨(by omega), (by omega)⟩ ?_
                refine wa_aload_n (n := 0) rfl ?_
                refine wb_gf4 158 rfl (wy_pr rfl) wt_158 wf_5_3 (v := 47) wl_158_3 ?_
                refine wa_bipush (w_rg2 (by omega) (by omega)) ?_
                refine wb_aald5 47 6 rfl rfl (wy_pr rfl) wt_47 (by rw [show _ = _ from ((w_up_slot (by decide)).trans ((w_up_slot (by decide)).trans ((w_up_slot (by decide)).trans ((w_up_slot (by decide)).trans ((cl_47 hC))))))]; omega) wl_47_6 ?_
                refine wa_aload_n (n := 0) rfl ?_
                refine wb_gfi 158 rfl (wy_pr rfl) wt_158 wf_5_14 (v := fo) ((w_up_slot (by decide)).trans ((w_up_slot (by decide)).trans ((w_up_slot (by decide)).trans ((w_up_slot (by decide)).trans (l14))))) (fun r30 => ?_)
                refine wa_aload_n (n := 0) rfl ?_
                refine wb_gf4 158 rfl (wy_pr rfl) wt_158 wf_5_0 (v := 72) wl_158_0 ?_
                refine wb_gfi 72 rfl (wy_pr rfl) wt_72 wf_2_11 (v := ch) ((w_up_slot (by decide)).trans ((w_up_slot (by decide)).trans ((w_up_slot (by decide)).trans ((w_up_slot (by decide)).trans (h11))))) (fun r31 => ?_)
                refine wb_iast 54 rfl (wy_pr rfl) wt_54 (n := (S 48 (-1))) ((w_up_slot (by decide)).trans ((w_up_slot (by decide)).trans ((w_up_slot (by decide)).trans ((w_up_slot (by decide)).trans ((hl.2.2.1 6 (by decide))))))) (by omega) (by omega) ⟨(by omega), (by omega)⟩ ?_
                refine wa_fall ⟨_, rfl⟩ ?_
                refine wa_return rfl ?_
                refine ⟨rfl, ?_, fun j x hj => ((w_up_no (by omega)).trans ((w_up_no (by omega)).trans ((w_up_no (by omega)).trans ((w_up_no (by omega)).trans (w_up_no (by omega))))))⟩
                rw [eE] at eN eS eL ⊢
                refine ⟨⟨(((w_up_slot (by first | decide | omega)).trans ((w_up_slot (by first | decide | omega)).trans ((w_up_slot (by first | decide | omega)).trans ((w_up_slot (by first | decide | omega)).trans (w_up_slot (by first | decide | omega)))))) : (w_up (w_up (w_up (w_up (w_up S 53 fo nm) 49 fo sh) 51 fo i3) 50 fo up) 54 fo ch) 48 fo = (S 48 fo)).trans ?_, (((w_up_slot (by first | decide | omega)).trans ((w_up_slot (by first | decide | omega)).trans ((w_up_slot (by first | decide | omega)).trans (w_up_same _ _ _ _)))) : (w_up (w_up (w_up (w_up (w_up S 53 fo nm) 49 fo sh) 51 fo i3) 50 fo up) 54 fo ch) 49 fo = sh).trans ?_, (((w_up_slot (by first | decide | omega)).trans (w_up_same _ _ _ _)) : (w_up (w_up (w_up (w_up (w_up S 53 fo nm) 49 fo sh) 51 fo i3) 50 fo up) 54 fo ch) 50 fo = up).trans ?_, (((w_up_slot (by first | decide | omega)).trans ((w_up_slot (by first | decide | omega)).trans (w_up_same _ _ _ _))) : (w_up (w_up (w_up (w_up (w_up S 53 fo nm) 49 fo sh) 51 fo i3) 50 fo up) 54 fo ch) 51 fo = i3).trans ?_, (((w_up_slot (by first | decide | omega)).trans ((w_up_slot (by first | decide | omega)).trans ((w_up_slot (by first | decide | omega)).trans ((w_up_slot (by first | decide | omega)).trans (w_up_slot (by first | decide | omega)))))) : (w_up (w_up (w_up (w_up (w_up S 53 fo nm) 49 fo sh) 51 fo i3) 50 fo up) 54 fo ch) 52 fo = (S 52 fo)).trans ?_⟩, ((((w_up_slot (by first | decide | omega)).trans ((w_up_slot (by first | decide | omega)).trans ((w_up_slot (by first | decide | omega)).trans ((w_up_slot (by first | decide | omega)).trans (w_up_same _ _ _ _))))) : (w_up (w_up (w_up (w_up (w_up S 53 fo nm) 49 fo sh) 51 fo i3) 50 fo up) 54 fo ch) 53 fo = nm).trans ?_).trans eN.symm, (((w_up_same _ _ _ _) : (w_up (w_up (w_up (w_up (w_up S 53 fo nm) 49 fo sh) 51 fo i3) 50 fo up) 54 fo ch) 54 fo = ch).trans ?_).trans eS.symm, ((((w_up_slot (by first | decide | omega)).trans ((w_up_slot (by first | decide | omega)).trans ((w_up_slot (by first | decide | omega)).trans ((w_up_slot (by first | decide | omega)).trans (w_up_slot (by first | decide | omega)))))) : (w_up (w_up (w_up (w_up (w_up S 53 fo nm) 49 fo sh) 51 fo i3) 50 fo up) 54 fo ch) 55 fo = (S 55 fo)).trans ?_).trans eL.1.symm, ((((w_up_slot (by first | decide | omega)).trans ((w_up_slot (by first | decide | omega)).trans ((w_up_slot (by first | decide | omega)).trans ((w_up_slot (by first | decide | omega)).trans (w_up_slot (by first | decide | omega)))))) : (w_up (w_up (w_up (w_up (w_up S 53 fo nm) 49 fo sh) 51 fo i3) 50 fo up) 54 fo ch) 56 fo = (S 56 fo)).trans ?_).trans eL.2.symm⟩
                all_goals first | rfl | exact q1 | exact q3 | exact q4 | exact q5 | exact q7 | exact q8 | exact q9 | exact (if_pos (by omega)).symm | exact (if_neg (by omega)).symm | exact q4.trans (if_pos (by omega)).symm | exact q3.trans (if_pos (by omega)).symm | exact q7.trans (if_pos (by omega)).symm
      · skip
        exfalso; omega
    · skip
      exfalso; omega
set_option maxHeartbeats 4000000 in
theorem lats_226 {ch r0 : Int} (hC : w_CL S) (hl : cSl S) (hW : cWd S T L G) (l4 : S 158 4 = 226) (l7 : S 158 7 = kd) (l9 : S 158 9 = gk) (l10 : S 158 10 = gb) (l11 : S 158 11 = nm) (l13 : S 158 13 = es) (l14 : S 158 14 = fo) (hfo : 0 ≤ fo ∧ fo < S 48 (-1)) (hT : (T.length : Int) ≤ 8000) (hq : isO T gb) (hsw : cSw S T H) (hw : wSh T H) (hnm : 0 ≤ nm ∧ nm ≤ 100000) (hne : nmE kd nms nm) (h11 : S 72 11 = ch) (hch : 0 ≤ ch ∧ ch ≤ 10000000) (hbl : blE 0 fo S) (hkd : kd = 1 ∨ kd = 3) (hI : gI S) (hx1 : pe_at (pe_GA xs).xs 1 = some (1, tx_1)) (hu : 0 ≤ S 150 4 ∧ S 150 4 ≤ 4000) (hr : r0 = aFs (tO T gb).2.1 (qPr H (tO T gb).2.1) nm H 0) : wJ (pe_GA xs) wY0 (mS [144, 145, 146, 147, 148]) (d + 4) t_XL_lookAtThing ((pe_at t_XL_lookAtThing.bl 0).getD (0, [])).2 [(0, (2, 158)), (1, (0, gb))] [] S (fun o Z => o = .inl none ∧ ((aIx T nm gb ≠ -1 ∧ cEc Z kd nms (stE T kd nm gb ch (-1)) fo ∧ ∀ (j : Nat) (x : Int), ¬ (48 ≤ j ∧ j ≤ 56 ∧ x = fo) → Z j x = S j x) ∨ (aIx T nm gb = -1 ∧ 0 ≤ r0 ∧ cEc Z kd nms (stE T kd nm gb ch r0) fo ∧ ∀ (j : Nat) (x : Int), ¬ (48 ≤ j ∧ j ≤ 56 ∧ x = fo) → Z j x = S j x) ∨ (aIx T nm gb = -1 ∧ r0 = -1 ∧ S 150 4 < 4000 ∧ cEc Z kd nms (stE T kd nm gb ch (H.length : Int)) fo ∧ ∃ A B : wS, (∀ (j : Nat) (x : Int), ¬ (48 ≤ j ∧ j ≤ 56 ∧ x = fo) → A j x = S j x) ∧ gI A ∧ rmR S A ∧ ns_ag (H.length : Int) (qPr H (tO T gb).2.1) (tO T gb).2.1 nm A B ∧ ∀ (j : Nat) (x : Int), ¬ (j = 52 ∧ x = fo) → Z j x = B j x) ∨ (aIx T nm gb = -1 ∧ r0 = -1 ∧ 4000 ≤ S 150 4 ∧ Z 226 16 = 99 ∧ ∀ (j : Nat) (x : Int), ¬ latM 226 fo j x → Z j x = S j x))) := by
  have h35 := hl.2.1
  have h48 := hl.2.2.2
  have hlt : cLt S T := hW.2.2.2.2.1
  have hth := hW.1
  have t2 := hlt.2
  have hq1 := hq.1
  have e28 : S 128 gb = (tO T gb).2.1 := (c_th hth hq1.1 hq1.2).1.2.1
  have hs8 := c_hs hsw.1 hth hw gb hq1.1 hq1.2 hq
  rw [e28] at hs8
  obtain ⟨-, hz2, -, hz4⟩ := hsw.2.1
  obtain ⟨sh, hsh⟩ : ∃ i : Int, i = (tO T gb).2.1 := ⟨_, rfl⟩
  rw [← hsh] at e28 hs8
  obtain ⟨⟨q1, q2, q3, q4, q5⟩, q6, q7, q8, q9⟩ := id hbl
  have hg : wG = 1000000 := rfl
  obtain ⟨i1, hi1⟩ : ∃ i : Int, i = aIx T nm gb := ⟨_, rfl⟩
  have hr1 := aIx_rg (T := T) (nm := nm) (k := gb)
  rw [← hi1] at hr1
  have hl1 := (hw.2.2.2.1 gb hq).2
  rw [← hi1]
  have eN : ∀ r : Int, cNm kd nms (stE T kd nm gb ch r) = nm := fun r => cNm_e rfl (by omega) hne rfl
  have eS : ∀ r : Int, eSn kd (stE T kd nm gb ch r) = -1 := fun r => if_neg (fun z => by omega)
  have eL : ∀ r : Int, cLo kd (stE T kd nm gb ch r) = -1 ∧ cHi kd (stE T kd nm gb ch r) = -1 := fun r => ⟨if_neg (fun z => by rcases z.1 with y | y; exact absurd y (show ¬ ((0 : Int) = 1) by decide); exact absurd y (show ¬ ((0 : Int) = 2) by decide)), if_neg (fun z => by rcases z.1 with y | y; exact absurd y (show ¬ ((0 : Int) = 1) by decide); exact absurd y (show ¬ ((0 : Int) = 2) by decide))⟩
  have eE : ∀ r : Int, stE T kd nm gb ch r = (0, sh, enE kd nm, -1, i1, r, ch, 0, 0) := fun r => by unfold stE; rw [hi1, hsh]
  rw [← hsh] at hr ⊢
  refine wa_aload_n (n := 0) rfl ?_
  refine wb_gfi 158 rfl (wy_pr rfl) wt_158 wf_5_7 (v := kd) (l7) (fun r401 => ?_)
  refine wa_iconst ?_
  refine wa_icmpeq (w_rg0 (by omega) (by omega)) (w_rg0 (by omega) (by omega)) ⟨_, rfl⟩ (fun c402 => ?_) (fun c402 => ?_)
  · skip
    exfalso; omega
  · skip
    refine wa_aload_n (n := 0) rfl ?_
    refine wb_gfi 158 rfl (wy_pr rfl) wt_158 wf_5_7 (v := kd) (l7) (fun r403 => ?_)
    refine wa_bipush (w_rg2 (by omega) (by omega)) ?_
    refine wa_icmpne (w_rg0 (by omega) (by omega)) (w_rg0 (by omega) (by omega)) ⟨_, rfl⟩ (fun c404 => ?_) (fun c404 => ?_)
    · skip
      refine wa_aload_n (n := 0) rfl ?_
      refine wb_gfi 158 rfl (wy_pr rfl) wt_158 wf_5_11 (v := nm) (l11) (fun r405 => ?_)
      refine wa_iconst ?_
      refine wa_icmpne (w_rg0 (by omega) (by omega)) (w_rg0 (by omega) (by omega)) ⟨_, rfl⟩ (fun c406 => ?_) (fun c406 => ?_)
      · skip
        refine wa_aload_n (n := 0) rfl ?_
        refine wb_gf4 158 rfl (wy_pr rfl) wt_158 wf_5_0 (v := 72) wl_158_0 ?_
        refine wb_gf4 72 rfl (wy_pr rfl) wt_72 wf_2_2 (v := 126) wl_72_2 ?_
        refine wa_iconst ?_
        refine wb_aald5 126 1 rfl rfl (wy_pr rfl) wt_126 (by rw [show _ = _ from ((cl_126 hC))]; omega) wl_126_1 ?_
        refine wa_iload_n (n := 1) rfl ?_
        refine wb_iald 128 rfl (wy_pr rfl) wt_128 (n := (S 127 (-1))) ((hlt.1 1 (by decide))) (by omega) (by omega) (v := sh) (e28) (fun r407 => ?_)
        refine wa_istore_n (n := 2) rfl ?_
        refine wa_aload_n (n := 0) rfl ?_
        refine wb_gf4 158 rfl (wy_pr rfl) wt_158 wf_5_3 (v := 47) wl_158_3 ?_
        refine wa_iconst ?_
        refine wb_aald5 47 5 rfl rfl (wy_pr rfl) wt_47 (by rw [show _ = _ from ((cl_47 hC))]; omega) wl_47_5 ?_
        refine wa_aload_n (n := 0) rfl ?_
        refine wb_gfi 158 rfl (wy_pr rfl) wt_158 wf_5_14 (v := fo) (l14) (fun r408 => ?_)
        refine wa_aload_n (n := 0) rfl ?_
        refine wb_gfi 158 rfl (wy_pr rfl) wt_158 wf_5_11 (v := nm) (l11) (fun r409 => ?_)
        refine wb_iast 53 rfl (wy_pr rfl) wt_53 (n := (S 48 (-1))) ((hl.2.2.1 5 (by decide))) (by omega) (by omega) ⟨(by omega), (by omega)⟩ ?_
        refine wa_aload_n (n := 0) rfl ?_
        refine wb_gf4 158 rfl (wy_pr rfl) wt_158 wf_5_3 (v := 47) wl_158_3 ?_
        refine wa_iconst ?_
        refine wb_aald5 47 1 rfl rfl (wy_pr rfl) wt_47 (by rw [show _ = _ from ((w_up_slot (by decide)).trans ((cl_47 hC)))]; omega) wl_47_1 ?_
        refine wa_aload_n (n := 0) rfl ?_
        refine wb_gfi 158 rfl (wy_pr rfl) wt_158 wf_5_14 (v := fo) ((w_up_slot (by decide)).trans (l14)) (fun r410 => ?_)
        refine wa_iload_n (n := 2) rfl ?_
        refine wb_iast 49 rfl (wy_pr rfl) wt_49 (n := (S 48 (-1))) ((w_up_slot (by decide)).trans ((hl.2.2.1 1 (by decide)))) (by omega) (by omega) ⟨(by omega), (by omega)⟩ ?_
        refine wa_aload_n (n := 0) rfl ?_
        refine wb_gfi 158 rfl (wy_pr rfl) wt_158 wf_5_7 (v := kd) ((w_up_slot (by decide)).trans ((w_up_slot (by decide)).trans (l7))) (fun r411 => ?_)
        refine wa_iconst ?_
        refine wa_icmpeq (w_rg0 (by omega) (by omega)) (w_rg0 (by omega) (by omega)) ⟨_, rfl⟩ (fun c412 => ?_) (fun c412 => ?_)
        · skip
          refine wa_aload_n (n := 0) rfl ?_
          refine wb_gf4 158 rfl (wy_pr rfl) wt_158 wf_5_3 (v := 47) wl_158_3 ?_
          refine wa_iconst ?_
          refine wb_aald5 47 3 rfl rfl (wy_pr rfl) wt_47 (by rw [show _ = _ from ((w_up_slot (by decide)).trans ((w_up_slot (by decide)).trans ((cl_47 hC))))]; omega) wl_47_3 ?_
          refine wa_aload_n (n := 0) rfl ?_
          refine wb_gfi 158 rfl (wy_pr rfl) wt_158 wf_5_14 (v := fo) ((w_up_slot (by decide)).trans ((w_up_slot (by decide)).trans (l14))) (fun r413 => ?_)
          refine wa_aload_n (n := 0) rfl ?_
          refine wb_gf4 158 rfl (wy_pr rfl) wt_158 wf_5_0 (v := 72) wl_158_0 ?_
          refine wa_iload_n (n := 2) rfl ?_
          refine wa_aload_n (n := 0) rfl ?_
          refine wb_gfi 158 rfl (wy_pr rfl) wt_158 wf_5_11 (v := nm) ((w_up_slot (by decide)).trans ((w_up_slot (by decide)).trans (l11))) (fun r414 => ?_)
          have fX : ∀ (j : Nat) (x : Int), ¬ (48 ≤ j ∧ j ≤ 56 ∧ x = fo) → (w_up (w_up S 53 fo nm) 49 fo sh) j x = S j x := fun j x hj => ((w_up_no (by omega)).trans (w_up_no (by omega)))
          have hC2 : w_CL (w_up (w_up S 53 fo nm) 49 fo sh) := w_CL_up (w_CL_up (hC) hfo.1) hfo.1
          have hsw2 : cSw (w_up (w_up S 53 fo nm) 49 fo sh) T H := cSw_ag hsw (fun j x hj => fX j x (by omega))
          have hW2 : cWd (w_up (w_up S 53 fo nm) 49 fo sh) T L G := cWd_ag hW (cTx_of (fX 2 1 (by first | decide | omega)) (fun x => fX 3 x (by first | decide | omega))) (fun j x hj => fX j x (by unfold cWo at hj; omega))
          refine wa_cv 72 rfl (wy_pr rfl) wt_72 (M2 := mS []) rfl at_XH_indexIn ⟨_, rfl⟩ rfl rfl ⟨trivial, (Or.inr ⟨wy_pr rfl, mS_no rfl⟩), trivial, trivial⟩ ⟨trivial, (Or.inr ⟨wy_pr rfl, mS_no rfl⟩), trivial⟩ (fun _ _ q => mS_sub (by decide) q) (wJ_mono (c_ixo (S := (w_up (w_up S 53 fo nm) 49 fo sh)) (k := gb) hC2 hsw2 hW2.1 hw hq ((fX 128 gb (by omega)).trans e28).symm ⟨by omega, by omega⟩) (fun o Z hz => (⟨hz.1, by rw [hi1]; exact hz.2⟩ : (w_up (w_up S 53 fo nm) 49 fo sh) = Z ∧ o = .inl (some (0, i1))))) (fun oq415 Sq415 hp416 q415 => ?_)
          rcases q415 with ⟨rfl, rfl⟩
          show wJ _ _ _ _ _ _ _ _ _ _
          refine wb_iast 51 rfl (wy_pr rfl) wt_51 (n := (S 48 (-1))) ((w_up_slot (by decide)).trans ((w_up_slot (by decide)).trans ((hl.2.2.1 3 (by decide))))) (by omega) (by omega) ⟨(by omega), (by omega)⟩ ?_
          refine wa_aload_n (n := 0) rfl ?_
          refine wb_gf4 158 rfl (wy_pr rfl) wt_158 wf_5_3 (v := 47) wl_158_3 ?_
          refine wa_iconst ?_
          refine wb_aald5 47 3 rfl rfl (wy_pr rfl) wt_47 (by rw [show _ = _ from ((w_up_slot (by decide)).trans ((w_up_slot (by decide)).trans ((w_up_slot (by decide)).trans ((cl_47 hC)))))]; omega) wl_47_3 ?_
          refine wa_aload_n (n := 0) rfl ?_
          refine wb_gfi 158 rfl (wy_pr rfl) wt_158 wf_5_14 (v := fo) ((w_up_slot (by decide)).trans ((w_up_slot (by decide)).trans ((w_up_slot (by decide)).trans (l14)))) (fun r417 => ?_)
          refine wb_iald 51 rfl (wy_pr rfl) wt_51 (n := (S 48 (-1))) ((w_up_at (by omega)).trans ((w_up_slot (by decide)).trans ((w_up_slot (by decide)).trans ((hl.2.2.1 3 (by decide)))))) (by omega) (by omega) (v := i1) (w_up_same _ _ _ _) (fun r418 => ?_)
          refine wa_iconst ?_
          refine wa_icmpne (w_rg0 (by omega) (by omega)) (w_rg0 (by omega) (by omega)) ⟨_, rfl⟩ (fun c419 => ?_) (fun c419 => ?_)
          · skip
            refine wa_return rfl ?_
            have hcE : cEc (w_up (w_up (w_up S 53 fo nm) 49 fo sh) 51 fo i1) kd nms (stE T kd nm gb ch (-1)) fo := by
              have eN := eN (-1)
              have eS := eS (-1)
              have eL := eL (-1)
              rw [eE] at eN eS eL ⊢
              refine ⟨⟨(((w_up_slot (by first | decide | omega)).trans ((w_up_slot (by first | decide | omega)).trans (w_up_slot (by first | decide | omega)))) : (w_up (w_up (w_up S 53 fo nm) 49 fo sh) 51 fo i1) 48 fo = (S 48 fo)).trans ?_, (((w_up_slot (by first | decide | omega)).trans (w_up_same _ _ _ _)) : (w_up (w_up (w_up S 53 fo nm) 49 fo sh) 51 fo i1) 49 fo = sh).trans ?_, (((w_up_slot (by first | decide | omega)).trans ((w_up_slot (by first | decide | omega)).trans (w_up_slot (by first | decide | omega)))) : (w_up (w_up (w_up S 53 fo nm) 49 fo sh) 51 fo i1) 50 fo = (S 50 fo)).trans ?_, ((w_up_same _ _ _ _) : (w_up (w_up (w_up S 53 fo nm) 49 fo sh) 51 fo i1) 51 fo = i1).trans ?_, (((w_up_slot (by first | decide | omega)).trans ((w_up_slot (by first | decide | omega)).trans (w_up_slot (by first | decide | omega)))) : (w_up (w_up (w_up S 53 fo nm) 49 fo sh) 51 fo i1) 52 fo = (S 52 fo)).trans ?_⟩, ((((w_up_slot (by first | decide | omega)).trans ((w_up_slot (by first | decide | omega)).trans (w_up_same _ _ _ _))) : (w_up (w_up (w_up S 53 fo nm) 49 fo sh) 51 fo i1) 53 fo = nm).trans ?_).trans eN.symm, ((((w_up_slot (by first | decide | omega)).trans ((w_up_slot (by first | decide | omega)).trans (w_up_slot (by first | decide | omega)))) : (w_up (w_up (w_up S 53 fo nm) 49 fo sh) 51 fo i1) 54 fo = (S 54 fo)).trans ?_).trans eS.symm, ((((w_up_slot (by first | decide | omega)).trans ((w_up_slot (by first | decide | omega)).trans (w_up_slot (by first | decide | omega)))) : (w_up (w_up (w_up S 53 fo nm) 49 fo sh) 51 fo i1) 55 fo = (S 55 fo)).trans ?_).trans eL.1.symm, ((((w_up_slot (by first | decide | omega)).trans ((w_up_slot (by first | decide | omega)).trans (w_up_slot (by first | decide | omega)))) : (w_up (w_up (w_up S 53 fo nm) 49 fo sh) 51 fo i1) 56 fo = (S 56 fo)).trans ?_).trans eL.2.symm⟩
              all_goals first | rfl | exact q1 | exact q3 | exact q5 | exact q7 | exact q8 | exact q9
            exact ⟨rfl, Or.inl ⟨by omega, hcE, fun j x hj => ((w_up_no (by omega)).trans ((w_up_no (by omega)).trans (w_up_no (by omega))))⟩⟩
          · skip
            refine wa_aload_n (n := 0) rfl ?_
            refine wb_gf4 158 rfl (wy_pr rfl) wt_158 wf_5_3 (v := 47) wl_158_3 ?_
            refine wa_iconst ?_
            refine wb_aald5 47 4 rfl rfl (wy_pr rfl) wt_47 (by rw [show _ = _ from ((w_up_slot (by decide)).trans ((w_up_slot (by decide)).trans ((w_up_slot (by decide)).trans ((cl_47 hC)))))]; omega) wl_47_4 ?_
            refine wa_aload_n (n := 0) rfl ?_
            refine wb_gfi 158 rfl (wy_pr rfl) wt_158 wf_5_14 (v := fo) ((w_up_slot (by decide)).trans ((w_up_slot (by decide)).trans ((w_up_slot (by decide)).trans (l14)))) (fun r420 => ?_)
            refine wa_aload_n (n := 0) rfl ?_
            refine wb_gf4 158 rfl (wy_pr rfl) wt_158 wf_5_0 (v := 72) wl_158_0 ?_
            refine wa_iload_n (n := 2) rfl ?_
            refine wa_aload_n (n := 0) rfl ?_
            refine wb_gfi 158 rfl (wy_pr rfl) wt_158 wf_5_11 (v := nm) ((w_up_slot (by decide)).trans ((w_up_slot (by decide)).trans ((w_up_slot (by decide)).trans (l11)))) (fun r421 => ?_)
            have fX : ∀ (j : Nat) (x : Int), ¬ (48 ≤ j ∧ j ≤ 56 ∧ x = fo) → (w_up (w_up (w_up S 53 fo nm) 49 fo sh) 51 fo i1) j x = S j x := fun j x hj => ((w_up_no (by omega)).trans ((w_up_no (by omega)).trans (w_up_no (by omega))))
            have hC2 : w_CL (w_up (w_up (w_up S 53 fo nm) 49 fo sh) 51 fo i1) := w_CL_up (w_CL_up (w_CL_up (hC) hfo.1) hfo.1) hfo.1
            have hsw2 : cSw (w_up (w_up (w_up S 53 fo nm) 49 fo sh) 51 fo i1) T H := cSw_ag hsw (fun j x hj => fX j x (by omega))
            have hW2 : cWd (w_up (w_up (w_up S 53 fo nm) 49 fo sh) 51 fo i1) T L G := cWd_ag hW (cTx_of (fX 2 1 (by first | decide | omega)) (fun x => fX 3 x (by first | decide | omega))) (fun j x hj => fX j x (by unfold cWo at hj; omega))
            have hI2 : gI (w_up (w_up (w_up S 53 fo nm) 49 fo sh) 51 fo i1) := gI_up (gI_up (gI_up (hI) hfo.1 (by first | decide | omega) (by first | decide | omega)) hfo.1 (by first | decide | omega) (by first | decide | omega)) hfo.1 (by first | decide | omega) (by first | decide | omega)
            have hR2 : rmR S (w_up (w_up (w_up S 53 fo nm) 49 fo sh) 51 fo i1) := rmR_up (rmR_up (rmR_up (rmR_rfl S) hfo.1 (by first | decide | omega)) hfo.1 (by first | decide | omega)) hfo.1 (by first | decide | omega)
            have e15 : (w_up (w_up (w_up S 53 fo nm) 49 fo sh) 51 fo i1) 150 4 = S 150 4 := fX 150 4 (by first | decide | omega)
            refine wa_cv 72 rfl (wy_pr rfl) wt_72 (M2 := mS [144, 145, 146, 147, 148]) rfl at_XH_reachShape ⟨_, rfl⟩ rfl rfl ⟨trivial, (Or.inr ⟨wy_pr rfl, mS_no rfl⟩), trivial, trivial⟩ ⟨trivial, (Or.inr ⟨wy_pr rfl, mS_no rfl⟩), trivial⟩ (fun _ _ q => q) (c_rs (S := (w_up (w_up (w_up S 53 fo nm) 49 fo sh) 51 fo i1)) (r := r0) hC2 hI2 hx1 hsw2 hw ⟨hs8.1, hs8.2.1⟩ ⟨by omega, by omega⟩ (by rw [e15]; exact hu) hr) (fun oq422 Sq422 hp423 q422 => ?_)
            rcases q422 with ⟨hr0, rfl, rfl⟩ | ⟨hr0, hu4, rfl, rfl⟩ | ⟨hr0, hu4, hns, rfl⟩
            · skip
              show wJ _ _ _ _ _ _ _ _ _ _
              have hr2 := aFs_rg (H := H) (be := sh) (pr := qPr H sh) (nm := nm)
              rw [← hr] at hr2
              refine wb_iast 52 rfl (wy_pr rfl) wt_52 (n := (S 48 (-1))) ((w_up_slot (by decide)).trans ((w_up_slot (by decide)).trans ((w_up_slot (by decide)).trans ((hl.2.2.1 4 (by decide)))))) (by omega) (by omega) ⟨(by omega), (by omega)⟩ ?_
              refine wa_aload_n (n := 0) rfl ?_
              refine wb_gf4 158 rfl (wy_pr rfl) wt_158 wf_5_3 (v := 47) wl_158_3 ?_
              refine wa_iconst ?_
              refine wb_aald5 47 4 rfl rfl (wy_pr rfl) wt_47 (by rw [show _ = _ from ((w_up_slot (by decide)).trans ((w_up_slot (by decide)).trans ((w_up_slot (by decide)).trans ((w_up_slot (by decide)).trans ((cl_47 hC))))))]; omega) wl_47_4 ?_
              refine wa_aload_n (n := 0) rfl ?_
              refine wa_fall ⟨_, rfl⟩ ?_
              refine wb_gfi 158 rfl (wy_pr rfl) wt_158 wf_5_14 (v := fo) ((w_up_slot (by decide)).trans ((w_up_slot (by decide)).trans ((w_up_slot (by decide)).trans ((w_up_slot (by decide)).trans (l14))))) (fun r424 => ?_)
              refine wb_iald 52 rfl (wy_pr rfl) wt_52 (n := (S 48 (-1))) ((w_up_at (by omega)).trans ((w_up_slot (by decide)).trans ((w_up_slot (by decide)).trans ((w_up_slot (by decide)).trans ((hl.2.2.1 4 (by decide))))))) (by omega) (by omega) (v := r0) (w_up_same _ _ _ _) (fun r425 => ?_)
              refine wa_iconst ?_
              refine wa_icmpne (w_rg0 (by omega) (by omega)) (w_rg0 (by omega) (by omega)) ⟨_, rfl⟩ (fun c426 => ?_) (fun c426 => ?_)
              · skip
                refine wa_return rfl ?_
                have hcE : cEc (w_up (w_up (w_up (w_up S 53 fo nm) 49 fo sh) 51 fo i1) 52 fo r0) kd nms (stE T kd nm gb ch r0) fo := by
                  have eN := eN r0
                  have eS := eS r0
                  have eL := eL r0
                  rw [eE] at eN eS eL ⊢
                  refine ⟨⟨(((w_up_slot (by first | decide | omega)).trans ((w_up_slot (by first | decide | omega)).trans ((w_up_slot (by first | decide | omega)).trans (w_up_slot (by first | decide | omega))))) : (w_up (w_up (w_up (w_up S 53 fo nm) 49 fo sh) 51 fo i1) 52 fo r0) 48 fo = (S 48 fo)).trans ?_, (((w_up_slot (by first | decide | omega)).trans ((w_up_slot (by first | decide | omega)).trans (w_up_same _ _ _ _))) : (w_up (w_up (w_up (w_up S 53 fo nm) 49 fo sh) 51 fo i1) 52 fo r0) 49 fo = sh).trans ?_, (((w_up_slot (by first | decide | omega)).trans ((w_up_slot (by first | decide | omega)).trans ((w_up_slot (by first | decide | omega)).trans (w_up_slot (by first | decide | omega))))) : (w_up (w_up (w_up (w_up S 53 fo nm) 49 fo sh) 51 fo i1) 52 fo r0) 50 fo = (S 50 fo)).trans ?_, (((w_up_slot (by first | decide | omega)).trans (w_up_same _ _ _ _)) : (w_up (w_up (w_up (w_up S 53 fo nm) 49 fo sh) 51 fo i1) 52 fo r0) 51 fo = i1).trans ?_, ((w_up_same _ _ _ _) : (w_up (w_up (w_up (w_up S 53 fo nm) 49 fo sh) 51 fo i1) 52 fo r0) 52 fo = r0).trans ?_⟩, ((((w_up_slot (by first | decide | omega)).trans ((w_up_slot (by first | decide | omega)).trans ((w_up_slot (by first | decide | omega)).trans (w_up_same _ _ _ _)))) : (w_up (w_up (w_up (w_up S 53 fo nm) 49 fo sh) 51 fo i1) 52 fo r0) 53 fo = nm).trans ?_).trans eN.symm, ((((w_up_slot (by first | decide | omega)).trans ((w_up_slot (by first | decide | omega)).trans ((w_up_slot (by first | decide | omega)).trans (w_up_slot (by first | decide | omega))))) : (w_up (w_up (w_up (w_up S 53 fo nm) 49 fo sh) 51 fo i1) 52 fo r0) 54 fo = (S 54 fo)).trans ?_).trans eS.symm, ((((w_up_slot (by first | decide | omega)).trans ((w_up_slot (by first | decide | omega)).trans ((w_up_slot (by first | decide | omega)).trans (w_up_slot (by first | decide | omega))))) : (w_up (w_up (w_up (w_up S 53 fo nm) 49 fo sh) 51 fo i1) 52 fo r0) 55 fo = (S 55 fo)).trans ?_).trans eL.1.symm, ((((w_up_slot (by first | decide | omega)).trans ((w_up_slot (by first | decide | omega)).trans ((w_up_slot (by first | decide | omega)).trans (w_up_slot (by first | decide | omega))))) : (w_up (w_up (w_up (w_up S 53 fo nm) 49 fo sh) 51 fo i1) 52 fo r0) 56 fo = (S 56 fo)).trans ?_).trans eL.2.symm⟩
                  all_goals first | rfl | exact q1 | exact q3 | exact q5 | exact q7 | exact q8 | exact q9
                exact ⟨rfl, Or.inr (Or.inl ⟨by omega, hr0, hcE, fun j x hj => ((w_up_no (by omega)).trans ((w_up_no (by omega)).trans ((w_up_no (by omega)).trans (w_up_no (by omega)))))⟩)⟩
              · skip
                exact absurd c426 (by omega)
            · skip
              show wJ _ _ _ _ _ _ _ _ _ _
              refine wb_iast 52 rfl (wy_pr rfl) wt_52 (n := (S 48 (-1))) ((w_up_slot (by decide)).trans ((w_up_slot (by decide)).trans ((w_up_slot (by decide)).trans ((hl.2.2.1 4 (by decide)))))) (by omega) (by omega) ⟨(by omega), (by omega)⟩ ?_
              refine wa_aload_n (n := 0) rfl ?_
              refine wb_gf4 158 rfl (wy_pr rfl) wt_158 wf_5_3 (v := 47) wl_158_3 ?_
              refine wa_iconst ?_
              refine wb_aald5 47 4 rfl rfl (wy_pr rfl) wt_47 (by rw [show _ = _ from ((w_up_slot (by decide)).trans ((w_up_slot (by decide)).trans ((w_up_slot (by decide)).trans ((w_up_slot (by decide)).trans ((cl_47 hC))))))]; omega) wl_47_4 ?_
              refine wa_aload_n (n := 0) rfl ?_
              refine wa_fall ⟨_, rfl⟩ ?_
              refine wb_gfi 158 rfl (wy_pr rfl) wt_158 wf_5_14 (v := fo) ((w_up_slot (by decide)).trans ((w_up_slot (by decide)).trans ((w_up_slot (by decide)).trans ((w_up_slot (by decide)).trans (l14))))) (fun r427 => ?_)
              refine wb_iald 52 rfl (wy_pr rfl) wt_52 (n := (S 48 (-1))) ((w_up_at (by omega)).trans ((w_up_slot (by decide)).trans ((w_up_slot (by decide)).trans ((w_up_slot (by decide)).trans ((hl.2.2.1 4 (by decide))))))) (by omega) (by omega) (v := (-1)) (w_up_same _ _ _ _) (fun r428 => ?_)
              refine wa_iconst ?_
              refine wa_icmpne (w_rg0 (by omega) (by omega)) (w_rg0 (by omega) (by omega)) ⟨_, rfl⟩ (fun c429 => ?_) (fun c429 => ?_)
              · skip
                exact absurd c429 (by omega)
              · skip
                refine wa_aload_n (n := 0) rfl ?_
                refine wb_gf5 158 rfl (wy_pr rfl) wt_158 wf_5_4 (v := 226) ((w_up_slot (by decide)).trans ((w_up_slot (by decide)).trans ((w_up_slot (by decide)).trans ((w_up_slot (by decide)).trans (l4))))) (fun r430 => ?_)
                refine wa_bipush (w_rg2 (by omega) (by omega)) ?_
                refine wb_pfi 226 rfl (wy_pr rfl) wt_226 wf_8_16 (n := 16) rfl ⟨(by omega), (by omega)⟩ ?_
                refine wa_fall ⟨_, rfl⟩ ?_
                refine wa_return rfl ?_
                exact ⟨rfl, Or.inr (Or.inr (Or.inr ⟨by omega, hr0, by rw [← e15]; exact hu4, w_up_same _ _ _ _, fun j x hj => ((w_up_no (by unfold latM at hj; omega)).trans ((w_up_no (by unfold latM at hj; omega)).trans ((w_up_no (by unfold latM at hj; omega)).trans ((w_up_no (by unfold latM at hj; omega)).trans (w_up_no (by unfold latM at hj; omega))))))⟩))⟩
            · skip
              show wJ _ _ _ _ _ _ _ _ _ _
              refine wb_iast 52 rfl (wy_pr rfl) wt_52 (n := (S 48 (-1))) (((hns.2.2.2.2.1 52 (-1) (by decide) (by decide) (by decide) (Or.inl (by decide)) (Or.inl (by decide)) (Or.inl (by decide))).trans ((w_up_slot (by decide)).trans ((w_up_slot (by decide)).trans ((w_up_slot (by decide)).trans ((hl.2.2.1 4 (by decide)))))))) (by omega) (by omega) ⟨(by omega), (by omega)⟩ ?_
              refine wa_aload_n (n := 0) rfl ?_
              refine wb_gf4 158 rfl (wy_pr rfl) wt_158 wf_5_3 (v := 47) wl_158_3 ?_
              refine wa_iconst ?_
              refine wb_aald5 47 4 rfl rfl (wy_pr rfl) wt_47 (by rw [show _ = _ from ((w_up_slot (by decide)).trans (((hns.2.2.2.2.1 47 (-1) (by decide) (by decide) (by decide) (Or.inl (by decide)) (Or.inl (by decide)) (Or.inl (by decide))).trans ((w_up_slot (by decide)).trans ((w_up_slot (by decide)).trans ((w_up_slot (by decide)).trans ((cl_47 hC))))))))]; omega) wl_47_4 ?_
              refine wa_aload_n (n := 0) rfl ?_
              refine wa_fall ⟨_, rfl⟩ ?_
              refine wb_gfi 158 rfl (wy_pr rfl) wt_158 wf_5_14 (v := fo) ((w_up_slot (by decide)).trans (((hns.2.2.2.2.1 158 14 (by decide) (by decide) (by decide) (Or.inl (by decide)) (Or.inl (by decide)) (Or.inl (by decide))).trans ((w_up_slot (by decide)).trans ((w_up_slot (by decide)).trans ((w_up_slot (by decide)).trans (l14))))))) (fun r431 => ?_)
              refine wb_iald 52 rfl (wy_pr rfl) wt_52 (n := (S 48 (-1))) ((w_up_at (by omega)).trans (((hns.2.2.2.2.1 52 (-1) (by decide) (by decide) (by decide) (Or.inl (by decide)) (Or.inl (by decide)) (Or.inl (by decide))).trans ((w_up_slot (by decide)).trans ((w_up_slot (by decide)).trans ((w_up_slot (by decide)).trans ((hl.2.2.1 4 (by decide))))))))) (by omega) (by omega) (v := (H.length : Int)) (w_up_same _ _ _ _) (fun r432 => ?_)
              refine wa_iconst ?_
              refine wa_icmpne (w_rg0 (by omega) (by omega)) (w_rg0 (by omega) (by omega)) ⟨_, rfl⟩ (fun c433 => ?_) (fun c433 => ?_)
              · skip
                refine wa_return rfl ?_
                have hcE : cEc (w_up Sq422 52 fo (H.length : Int)) kd nms (stE T kd nm gb ch (H.length : Int)) fo := by
                  have eN := eN (H.length : Int)
                  have eS := eS (H.length : Int)
                  have eL := eL (H.length : Int)
                  rw [eE] at eN eS eL ⊢
                  refine ⟨⟨(((w_up_slot (by first | decide | omega)).trans (((hns.2.2.2.2.1 48 fo (by first | decide | omega) (by first | decide | omega) (by first | decide | omega) (Or.inl (by first | decide | omega)) (Or.inl (by first | decide | omega)) (Or.inl (by first | decide | omega))).trans ((w_up_slot (by first | decide | omega)).trans ((w_up_slot (by first | decide | omega)).trans (w_up_slot (by first | decide | omega))))))) : (w_up Sq422 52 fo (H.length : Int)) 48 fo = (S 48 fo)).trans ?_, (((w_up_slot (by first | decide | omega)).trans (((hns.2.2.2.2.1 49 fo (by first | decide | omega) (by first | decide | omega) (by first | decide | omega) (Or.inl (by first | decide | omega)) (Or.inl (by first | decide | omega)) (Or.inl (by first | decide | omega))).trans ((w_up_slot (by first | decide | omega)).trans (w_up_same _ _ _ _))))) : (w_up Sq422 52 fo (H.length : Int)) 49 fo = sh).trans ?_, (((w_up_slot (by first | decide | omega)).trans (((hns.2.2.2.2.1 50 fo (by first | decide | omega) (by first | decide | omega) (by first | decide | omega) (Or.inl (by first | decide | omega)) (Or.inl (by first | decide | omega)) (Or.inl (by first | decide | omega))).trans ((w_up_slot (by first | decide | omega)).trans ((w_up_slot (by first | decide | omega)).trans (w_up_slot (by first | decide | omega))))))) : (w_up Sq422 52 fo (H.length : Int)) 50 fo = (S 50 fo)).trans ?_, (((w_up_slot (by first | decide | omega)).trans (((hns.2.2.2.2.1 51 fo (by first | decide | omega) (by first | decide | omega) (by first | decide | omega) (Or.inl (by first | decide | omega)) (Or.inl (by first | decide | omega)) (Or.inl (by first | decide | omega))).trans (w_up_same _ _ _ _)))) : (w_up Sq422 52 fo (H.length : Int)) 51 fo = i1).trans ?_, ((w_up_same _ _ _ _) : (w_up Sq422 52 fo (H.length : Int)) 52 fo = (H.length : Int)).trans ?_⟩, ((((w_up_slot (by first | decide | omega)).trans (((hns.2.2.2.2.1 53 fo (by first | decide | omega) (by first | decide | omega) (by first | decide | omega) (Or.inl (by first | decide | omega)) (Or.inl (by first | decide | omega)) (Or.inl (by first | decide | omega))).trans ((w_up_slot (by first | decide | omega)).trans ((w_up_slot (by first | decide | omega)).trans (w_up_same _ _ _ _)))))) : (w_up Sq422 52 fo (H.length : Int)) 53 fo = nm).trans ?_).trans eN.symm, ((((w_up_slot (by first | decide | omega)).trans (((hns.2.2.2.2.1 54 fo (by first | decide | omega) (by first | decide | omega) (by first | decide | omega) (Or.inl (by first | decide | omega)) (Or.inl (by first | decide | omega)) (Or.inl (by first | decide | omega))).trans ((w_up_slot (by first | decide | omega)).trans ((w_up_slot (by first | decide | omega)).trans (w_up_slot (by first | decide | omega))))))) : (w_up Sq422 52 fo (H.length : Int)) 54 fo = (S 54 fo)).trans ?_).trans eS.symm, ((((w_up_slot (by first | decide | omega)).trans (((hns.2.2.2.2.1 55 fo (by first | decide | omega) (by first | decide | omega) (by first | decide | omega) (Or.inl (by first | decide | omega)) (Or.inl (by first | decide | omega)) (Or.inl (by first | decide | omega))).trans ((w_up_slot (by first | decide | omega)).trans ((w_up_slot (by first | decide | omega)).trans (w_up_slot (by first | decide | omega))))))) : (w_up Sq422 52 fo (H.length : Int)) 55 fo = (S 55 fo)).trans ?_).trans eL.1.symm, ((((w_up_slot (by first | decide | omega)).trans (((hns.2.2.2.2.1 56 fo (by first | decide | omega) (by first | decide | omega) (by first | decide | omega) (Or.inl (by first | decide | omega)) (Or.inl (by first | decide | omega)) (Or.inl (by first | decide | omega))).trans ((w_up_slot (by first | decide | omega)).trans ((w_up_slot (by first | decide | omega)).trans (w_up_slot (by first | decide | omega))))))) : (w_up Sq422 52 fo (H.length : Int)) 56 fo = (S 56 fo)).trans ?_).trans eL.2.symm⟩
                  all_goals first | rfl | exact q1 | exact q3 | exact q5 | exact q7 | exact q8 | exact q9
                exact ⟨rfl, Or.inr (Or.inr (Or.inl ⟨by omega, hr0, by rw [← e15]; exact hu4, hcE, (w_up (w_up (w_up S 53 fo nm) 49 fo sh) 51 fo i1), Sq422, fX, hI2, hR2, hns, fun j x hj => w_up_no (by omega)⟩))⟩
              · skip
                exact absurd c433 (by omega)
        · skip
          refine wa_aload_n (n := 0) rfl ?_
          refine wb_gfi 158 rfl (wy_pr rfl) wt_158 wf_5_7 (v := kd) ((w_up_slot (by decide)).trans ((w_up_slot (by decide)).trans (l7))) (fun r434 => ?_)
          refine wa_iconst ?_
          refine wa_icmpeq (w_rg0 (by omega) (by omega)) (w_rg0 (by omega) (by omega)) ⟨_, rfl⟩ (fun c435 => ?_) (fun c435 => ?_)
          · skip
            refine wa_aload_n (n := 0) rfl ?_
            refine wb_gf4 158 rfl (wy_pr rfl) wt_158 wf_5_3 (v := 47) wl_158_3 ?_
            refine wa_iconst ?_
            refine wb_aald5 47 3 rfl rfl (wy_pr rfl) wt_47 (by rw [show _ = _ from ((w_up_slot (by decide)).trans ((w_up_slot (by decide)).trans ((cl_47 hC))))]; omega) wl_47_3 ?_
            refine wa_aload_n (n := 0) rfl ?_
            refine wb_gfi 158 rfl (wy_pr rfl) wt_158 wf_5_14 (v := fo) ((w_up_slot (by decide)).trans ((w_up_slot (by decide)).trans (l14))) (fun r436 => ?_)
            refine wa_aload_n (n := 0) rfl ?_
            refine wb_gf4 158 rfl (wy_pr rfl) wt_158 wf_5_0 (v := 72) wl_158_0 ?_
            refine wa_iload_n (n := 2) rfl ?_
            refine wa_aload_n (n := 0) rfl ?_
            refine wb_gfi 158 rfl (wy_pr rfl) wt_158 wf_5_11 (v := nm) ((w_up_slot (by decide)).trans ((w_up_slot (by decide)).trans (l11))) (fun r437 => ?_)
            have fX : ∀ (j : Nat) (x : Int), ¬ (48 ≤ j ∧ j ≤ 56 ∧ x = fo) → (w_up (w_up S 53 fo nm) 49 fo sh) j x = S j x := fun j x hj => ((w_up_no (by omega)).trans (w_up_no (by omega)))
            have hC2 : w_CL (w_up (w_up S 53 fo nm) 49 fo sh) := w_CL_up (w_CL_up (hC) hfo.1) hfo.1
            have hsw2 : cSw (w_up (w_up S 53 fo nm) 49 fo sh) T H := cSw_ag hsw (fun j x hj => fX j x (by omega))
            have hW2 : cWd (w_up (w_up S 53 fo nm) 49 fo sh) T L G := cWd_ag hW (cTx_of (fX 2 1 (by first | decide | omega)) (fun x => fX 3 x (by first | decide | omega))) (fun j x hj => fX j x (by unfold cWo at hj; omega))
            refine wa_cv 72 rfl (wy_pr rfl) wt_72 (M2 := mS []) rfl at_XH_indexIn ⟨_, rfl⟩ rfl rfl ⟨trivial, (Or.inr ⟨wy_pr rfl, mS_no rfl⟩), trivial, trivial⟩ ⟨trivial, (Or.inr ⟨wy_pr rfl, mS_no rfl⟩), trivial⟩ (fun _ _ q => mS_sub (by decide) q) (wJ_mono (c_ixo (S := (w_up (w_up S 53 fo nm) 49 fo sh)) (k := gb) hC2 hsw2 hW2.1 hw hq ((fX 128 gb (by omega)).trans e28).symm ⟨by omega, by omega⟩) (fun o Z hz => (⟨hz.1, by rw [hi1]; exact hz.2⟩ : (w_up (w_up S 53 fo nm) 49 fo sh) = Z ∧ o = .inl (some (0, i1))))) (fun oq438 Sq438 hp439 q438 => ?_)
            rcases q438 with ⟨rfl, rfl⟩
            show wJ _ _ _ _ _ _ _ _ _ _
            refine wb_iast 51 rfl (wy_pr rfl) wt_51 (n := (S 48 (-1))) ((w_up_slot (by decide)).trans ((w_up_slot (by decide)).trans ((hl.2.2.1 3 (by decide))))) (by omega) (by omega) ⟨(by omega), (by omega)⟩ ?_
            refine wa_aload_n (n := 0) rfl ?_
            refine wb_gf4 158 rfl (wy_pr rfl) wt_158 wf_5_3 (v := 47) wl_158_3 ?_
            refine wa_iconst ?_
            refine wb_aald5 47 3 rfl rfl (wy_pr rfl) wt_47 (by rw [show _ = _ from ((w_up_slot (by decide)).trans ((w_up_slot (by decide)).trans ((w_up_slot (by decide)).trans ((cl_47 hC)))))]; omega) wl_47_3 ?_
            refine wa_aload_n (n := 0) rfl ?_
            refine wb_gfi 158 rfl (wy_pr rfl) wt_158 wf_5_14 (v := fo) ((w_up_slot (by decide)).trans ((w_up_slot (by decide)).trans ((w_up_slot (by decide)).trans (l14)))) (fun r440 => ?_)
            refine wb_iald 51 rfl (wy_pr rfl) wt_51 (n := (S 48 (-1))) ((w_up_at (by omega)).trans ((w_up_slot (by decide)).trans ((w_up_slot (by decide)).trans ((hl.2.2.1 3 (by decide)))))) (by omega) (by omega) (v := i1) (w_up_same _ _ _ _) (fun r441 => ?_)
            refine wa_iconst ?_
            refine wa_icmpne (w_rg0 (by omega) (by omega)) (w_rg0 (by omega) (by omega)) ⟨_, rfl⟩ (fun c442 => ?_) (fun c442 => ?_)
            · skip
              refine wa_return rfl ?_
              have hcE : cEc (w_up (w_up (w_up S 53 fo nm) 49 fo sh) 51 fo i1) kd nms (stE T kd nm gb ch (-1)) fo := by
                have eN := eN (-1)
                have eS := eS (-1)
                have eL := eL (-1)
                rw [eE] at eN eS eL ⊢
                refine ⟨⟨(((w_up_slot (by first | decide | omega)).trans ((w_up_slot (by first | decide | omega)).trans (w_up_slot (by first | decide | omega)))) : (w_up (w_up (w_up S 53 fo nm) 49 fo sh) 51 fo i1) 48 fo = (S 48 fo)).trans ?_, (((w_up_slot (by first | decide | omega)).trans (w_up_same _ _ _ _)) : (w_up (w_up (w_up S 53 fo nm) 49 fo sh) 51 fo i1) 49 fo = sh).trans ?_, (((w_up_slot (by first | decide | omega)).trans ((w_up_slot (by first | decide | omega)).trans (w_up_slot (by first | decide | omega)))) : (w_up (w_up (w_up S 53 fo nm) 49 fo sh) 51 fo i1) 50 fo = (S 50 fo)).trans ?_, ((w_up_same _ _ _ _) : (w_up (w_up (w_up S 53 fo nm) 49 fo sh) 51 fo i1) 51 fo = i1).trans ?_, (((w_up_slot (by first | decide | omega)).trans ((w_up_slot (by first | decide | omega)).trans (w_up_slot (by first | decide | omega)))) : (w_up (w_up (w_up S 53 fo nm) 49 fo sh) 51 fo i1) 52 fo = (S 52 fo)).trans ?_⟩, ((((w_up_slot (by first | decide | omega)).trans ((w_up_slot (by first | decide | omega)).trans (w_up_same _ _ _ _))) : (w_up (w_up (w_up S 53 fo nm) 49 fo sh) 51 fo i1) 53 fo = nm).trans ?_).trans eN.symm, ((((w_up_slot (by first | decide | omega)).trans ((w_up_slot (by first | decide | omega)).trans (w_up_slot (by first | decide | omega)))) : (w_up (w_up (w_up S 53 fo nm) 49 fo sh) 51 fo i1) 54 fo = (S 54 fo)).trans ?_).trans eS.symm, ((((w_up_slot (by first | decide | omega)).trans ((w_up_slot (by first | decide | omega)).trans (w_up_slot (by first | decide | omega)))) : (w_up (w_up (w_up S 53 fo nm) 49 fo sh) 51 fo i1) 55 fo = (S 55 fo)).trans ?_).trans eL.1.symm, ((((w_up_slot (by first | decide | omega)).trans ((w_up_slot (by first | decide | omega)).trans (w_up_slot (by first | decide | omega)))) : (w_up (w_up (w_up S 53 fo nm) 49 fo sh) 51 fo i1) 56 fo = (S 56 fo)).trans ?_).trans eL.2.symm⟩
                all_goals first | rfl | exact q1 | exact q3 | exact q5 | exact q7 | exact q8 | exact q9
              exact ⟨rfl, Or.inl ⟨by omega, hcE, fun j x hj => ((w_up_no (by omega)).trans ((w_up_no (by omega)).trans (w_up_no (by omega))))⟩⟩
            · skip
              refine wa_aload_n (n := 0) rfl ?_
              refine wb_gf4 158 rfl (wy_pr rfl) wt_158 wf_5_3 (v := 47) wl_158_3 ?_
              refine wa_iconst ?_
              refine wb_aald5 47 4 rfl rfl (wy_pr rfl) wt_47 (by rw [show _ = _ from ((w_up_slot (by decide)).trans ((w_up_slot (by decide)).trans ((w_up_slot (by decide)).trans ((cl_47 hC)))))]; omega) wl_47_4 ?_
              refine wa_aload_n (n := 0) rfl ?_
              refine wb_gfi 158 rfl (wy_pr rfl) wt_158 wf_5_14 (v := fo) ((w_up_slot (by decide)).trans ((w_up_slot (by decide)).trans ((w_up_slot (by decide)).trans (l14)))) (fun r443 => ?_)
              refine wa_aload_n (n := 0) rfl ?_
              refine wb_gf4 158 rfl (wy_pr rfl) wt_158 wf_5_0 (v := 72) wl_158_0 ?_
              refine wa_iload_n (n := 2) rfl ?_
              refine wa_aload_n (n := 0) rfl ?_
              refine wb_gfi 158 rfl (wy_pr rfl) wt_158 wf_5_11 (v := nm) ((w_up_slot (by decide)).trans ((w_up_slot (by decide)).trans ((w_up_slot (by decide)).trans (l11)))) (fun r444 => ?_)
              have fX : ∀ (j : Nat) (x : Int), ¬ (48 ≤ j ∧ j ≤ 56 ∧ x = fo) → (w_up (w_up (w_up S 53 fo nm) 49 fo sh) 51 fo i1) j x = S j x := fun j x hj => ((w_up_no (by omega)).trans ((w_up_no (by omega)).trans (w_up_no (by omega))))
              have hC2 : w_CL (w_up (w_up (w_up S 53 fo nm) 49 fo sh) 51 fo i1) := w_CL_up (w_CL_up (w_CL_up (hC) hfo.1) hfo.1) hfo.1
              have hsw2 : cSw (w_up (w_up (w_up S 53 fo nm) 49 fo sh) 51 fo i1) T H := cSw_ag hsw (fun j x hj => fX j x (by omega))
              have hW2 : cWd (w_up (w_up (w_up S 53 fo nm) 49 fo sh) 51 fo i1) T L G := cWd_ag hW (cTx_of (fX 2 1 (by first | decide | omega)) (fun x => fX 3 x (by first | decide | omega))) (fun j x hj => fX j x (by unfold cWo at hj; omega))
              have hI2 : gI (w_up (w_up (w_up S 53 fo nm) 49 fo sh) 51 fo i1) := gI_up (gI_up (gI_up (hI) hfo.1 (by first | decide | omega) (by first | decide | omega)) hfo.1 (by first | decide | omega) (by first | decide | omega)) hfo.1 (by first | decide | omega) (by first | decide | omega)
              have hR2 : rmR S (w_up (w_up (w_up S 53 fo nm) 49 fo sh) 51 fo i1) := rmR_up (rmR_up (rmR_up (rmR_rfl S) hfo.1 (by first | decide | omega)) hfo.1 (by first | decide | omega)) hfo.1 (by first | decide | omega)
              have e15 : (w_up (w_up (w_up S 53 fo nm) 49 fo sh) 51 fo i1) 150 4 = S 150 4 := fX 150 4 (by first | decide | omega)
              refine wa_cv 72 rfl (wy_pr rfl) wt_72 (M2 := mS [144, 145, 146, 147, 148]) rfl at_XH_reachShape ⟨_, rfl⟩ rfl rfl ⟨trivial, (Or.inr ⟨wy_pr rfl, mS_no rfl⟩), trivial, trivial⟩ ⟨trivial, (Or.inr ⟨wy_pr rfl, mS_no rfl⟩), trivial⟩ (fun _ _ q => q) (c_rs (S := (w_up (w_up (w_up S 53 fo nm) 49 fo sh) 51 fo i1)) (r := r0) hC2 hI2 hx1 hsw2 hw ⟨hs8.1, hs8.2.1⟩ ⟨by omega, by omega⟩ (by rw [e15]; exact hu) hr) (fun oq445 Sq445 hp446 q445 => ?_)
              rcases q445 with ⟨hr0, rfl, rfl⟩ | ⟨hr0, hu4, rfl, rfl⟩ | ⟨hr0, hu4, hns, rfl⟩
              · skip
                show wJ _ _ _ _ _ _ _ _ _ _
                have hr2 := aFs_rg (H := H) (be := sh) (pr := qPr H sh) (nm := nm)
                rw [← hr] at hr2
                refine wb_iast 52 rfl (wy_pr rfl) wt_52 (n := (S 48 (-1))) ((w_up_slot (by decide)).trans ((w_up_slot (by decide)).trans ((w_up_slot (by decide)).trans ((hl.2.2.1 4 (by decide)))))) (by omega) (by omega) ⟨(by omega), (by omega)⟩ ?_
                refine wa_aload_n (n := 0) rfl ?_
                refine wb_gf4 158 rfl (wy_pr rfl) wt_158 wf_5_3 (v := 47) wl_158_3 ?_
                refine wa_iconst ?_
                refine wb_aald5 47 4 rfl rfl (wy_pr rfl) wt_47 (by rw [show _ = _ from ((w_up_slot (by decide)).trans ((w_up_slot (by decide)).trans ((w_up_slot (by decide)).trans ((w_up_slot (by decide)).trans ((cl_47 hC))))))]; omega) wl_47_4 ?_
                refine wa_aload_n (n := 0) rfl ?_
                refine wa_fall ⟨_, rfl⟩ ?_
                refine wb_gfi 158 rfl (wy_pr rfl) wt_158 wf_5_14 (v := fo) ((w_up_slot (by decide)).trans ((w_up_slot (by decide)).trans ((w_up_slot (by decide)).trans ((w_up_slot (by decide)).trans (l14))))) (fun r447 => ?_)
                refine wb_iald 52 rfl (wy_pr rfl) wt_52 (n := (S 48 (-1))) ((w_up_at (by omega)).trans ((w_up_slot (by decide)).trans ((w_up_slot (by decide)).trans ((w_up_slot (by decide)).trans ((hl.2.2.1 4 (by decide))))))) (by omega) (by omega) (v := r0) (w_up_same _ _ _ _) (fun r448 => ?_)
                refine wa_iconst ?_
                refine wa_icmpne (w_rg0 (by omega) (by omega)) (w_rg0 (by omega) (by omega)) ⟨_, rfl⟩ (fun c449 => ?_) (fun c449 => ?_)
                · skip
                  refine wa_return rfl ?_
                  have hcE : cEc (w_up (w_up (w_up (w_up S 53 fo nm) 49 fo sh) 51 fo i1) 52 fo r0) kd nms (stE T kd nm gb ch r0) fo := by
                    have eN := eN r0
                    have eS := eS r0
                    have eL := eL r0
                    rw [eE] at eN eS eL ⊢
                    refine ⟨⟨(((w_up_slot (by first | decide | omega)).trans ((w_up_slot (by first | decide | omega)).trans ((w_up_slot (by first | decide | omega)).trans (w_up_slot (by first | decide | omega))))) : (w_up (w_up (w_up (w_up S 53 fo nm) 49 fo sh) 51 fo i1) 52 fo r0) 48 fo = (S 48 fo)).trans ?_, (((w_up_slot (by first | decide | omega)).trans ((w_up_slot (by first | decide | omega)).trans (w_up_same _ _ _ _))) : (w_up (w_up (w_up (w_up S 53 fo nm) 49 fo sh) 51 fo i1) 52 fo r0) 49 fo = sh).trans ?_, (((w_up_slot (by first | decide | omega)).trans ((w_up_slot (by first | decide | omega)).trans ((w_up_slot (by first | decide | omega)).trans (w_up_slot (by first | decide | omega))))) : (w_up (w_up (w_up (w_up S 53 fo nm) 49 fo sh) 51 fo i1) 52 fo r0) 50 fo = (S 50 fo)).trans ?_, (((w_up_slot (by first | decide | omega)).trans (w_up_same _ _ _ _)) : (w_up (w_up (w_up (w_up S 53 fo nm) 49 fo sh) 51 fo i1) 52 fo r0) 51 fo = i1).trans ?_, ((w_up_same _ _ _ _) : (w_up (w_up (w_up (w_up S 53 fo nm) 49 fo sh) 51 fo i1) 52 fo r0) 52 fo = r0).trans ?_⟩, ((((w_up_slot (by first | decide | omega)).trans ((w_up_slot (by first | decide | omega)).trans ((w_up_slot (by first | decide | omega)).trans (w_up_same _ _ _ _)))) : (w_up (w_up (w_up (w_up S 53 fo nm) 49 fo sh) 51 fo i1) 52 fo r0) 53 fo = nm).trans ?_).trans eN.symm, ((((w_up_slot (by first | decide | omega)).trans ((w_up_slot (by first | decide | omega)).trans ((w_up_slot (by first | decide | omega)).trans (w_up_slot (by first | decide | omega))))) : (w_up (w_up (w_up (w_up S 53 fo nm) 49 fo sh) 51 fo i1) 52 fo r0) 54 fo = (S 54 fo)).trans ?_).trans eS.symm, ((((w_up_slot (by first | decide | omega)).trans ((w_up_slot (by first | decide | omega)).trans ((w_up_slot (by first | decide | omega)).trans (w_up_slot (by first | decide | omega))))) : (w_up (w_up (w_up (w_up S 53 fo nm) 49 fo sh) 51 fo i1) 52 fo r0) 55 fo = (S 55 fo)).trans ?_).trans eL.1.symm, ((((w_up_slot (by first | decide | omega)).trans ((w_up_slot (by first | decide | omega)).trans ((w_up_slot (by first | decide | omega)).trans (w_up_slot (by first | decide | omega))))) : (w_up (w_up (w_up (w_up S 53 fo nm) 49 fo sh) 51 fo i1) 52 fo r0) 56 fo = (S 56 fo)).trans ?_).trans eL.2.symm⟩
                    all_goals first | rfl | exact q1 | exact q3 | exact q5 | exact q7 | exact q8 | exact q9
                  exact ⟨rfl, Or.inr (Or.inl ⟨by omega, hr0, hcE, fun j x hj => ((w_up_no (by omega)).trans ((w_up_no (by omega)).trans ((w_up_no (by omega)).trans (w_up_no (by omega)))))⟩)⟩
                · skip
                  exact absurd c449 (by omega)
              · skip
                show wJ _ _ _ _ _ _ _ _ _ _
                refine wb_iast 52 rfl (wy_pr rfl) wt_52 (n := (S 48 (-1))) ((w_up_slot (by decide)).trans ((w_up_slot (by decide)).trans ((w_up_slot (by decide)).trans ((hl.2.2.1 4 (by decide)))))) (by omega) (by omega) ⟨(by omega), (by omega)⟩ ?_
                refine wa_aload_n (n := 0) rfl ?_
                refine wb_gf4 158 rfl (wy_pr rfl) wt_158 wf_5_3 (v := 47) wl_158_3 ?_
                refine wa_iconst ?_
                refine wb_aald5 47 4 rfl rfl (wy_pr rfl) wt_47 (by rw [show _ = _ from ((w_up_slot (by decide)).trans ((w_up_slot (by decide)).trans ((w_up_slot (by decide)).trans ((w_up_slot (by decide)).trans ((cl_47 hC))))))]; omega) wl_47_4 ?_
                refine wa_aload_n (n := 0) rfl ?_
                refine wa_fall ⟨_, rfl⟩ ?_
                refine wb_gfi 158 rfl (wy_pr rfl) wt_158 wf_5_14 (v := fo) ((w_up_slot (by decide)).trans ((w_up_slot (by decide)).trans ((w_up_slot (by decide)).trans ((w_up_slot (by decide)).trans (l14))))) (fun r450 => ?_)
                refine wb_iald 52 rfl (wy_pr rfl) wt_52 (n := (S 48 (-1))) ((w_up_at (by omega)).trans ((w_up_slot (by decide)).trans ((w_up_slot (by decide)).trans ((w_up_slot (by decide)).trans ((hl.2.2.1 4 (by decide))))))) (by omega) (by omega) (v := (-1)) (w_up_same _ _ _ _) (fun r451 => ?_)
                refine wa_iconst ?_
                refine wa_icmpne (w_rg0 (by omega) (by omega)) (w_rg0 (by omega) (by omega)) ⟨_, rfl⟩ (fun c452 => ?_) (fun c452 => ?_)
                · skip
                  exact absurd c452 (by omega)
                · skip
                  refine wa_aload_n (n := 0) rfl ?_
                  refine wb_gf5 158 rfl (wy_pr rfl) wt_158 wf_5_4 (v := 226) ((w_up_slot (by decide)).trans ((w_up_slot (by decide)).trans ((w_up_slot (by decide)).trans ((w_up_slot (by decide)).trans (l4))))) (fun r453 => ?_)
                  refine wa_bipush (w_rg2 (by omega) (by omega)) ?_
                  refine wb_pfi 226 rfl (wy_pr rfl) wt_226 wf_8_16 (n := 16) rfl ⟨(by omega), (by omega)⟩ ?_
                  refine wa_fall ⟨_, rfl⟩ ?_
                  refine wa_return rfl ?_
                  exact ⟨rfl, Or.inr (Or.inr (Or.inr ⟨by omega, hr0, by rw [← e15]; exact hu4, w_up_same _ _ _ _, fun j x hj => ((w_up_no (by unfold latM at hj; omega)).trans ((w_up_no (by unfold latM at hj; omega)).trans ((w_up_no (by unfold latM at hj; omega)).trans ((w_up_no (by unfold latM at hj; omega)).trans (w_up_no (by unfold latM at hj; omega))))))⟩))⟩
              · skip
                show wJ _ _ _ _ _ _ _ _ _ _
                refine wb_iast 52 rfl (wy_pr rfl) wt_52 (n := (S 48 (-1))) (((hns.2.2.2.2.1 52 (-1) (by decide) (by decide) (by decide) (Or.inl (by decide)) (Or.inl (by decide)) (Or.inl (by decide))).trans ((w_up_slot (by decide)).trans ((w_up_slot (by decide)).trans ((w_up_slot (by decide)).trans ((hl.2.2.1 4 (by decide)))))))) (by omega) (by omega) ⟨(by omega), (by omega)⟩ ?_
                refine wa_aload_n (n := 0) rfl ?_
                refine wb_gf4 158 rfl (wy_pr rfl) wt_158 wf_5_3 (v := 47) wl_158_3 ?_
                refine wa_iconst ?_
                refine wb_aald5 47 4 rfl rfl (wy_pr rfl) wt_47 (by rw [show _ = _ from ((w_up_slot (by decide)).trans (((hns.2.2.2.2.1 47 (-1) (by decide) (by decide) (by decide) (Or.inl (by decide)) (Or.inl (by decide)) (Or.inl (by decide))).trans ((w_up_slot (by decide)).trans ((w_up_slot (by decide)).trans ((w_up_slot (by decide)).trans ((cl_47 hC))))))))]; omega) wl_47_4 ?_
                refine wa_aload_n (n := 0) rfl ?_
                refine wa_fall ⟨_, rfl⟩ ?_
                refine wb_gfi 158 rfl (wy_pr rfl) wt_158 wf_5_14 (v := fo) ((w_up_slot (by decide)).trans (((hns.2.2.2.2.1 158 14 (by decide) (by decide) (by decide) (Or.inl (by decide)) (Or.inl (by decide)) (Or.inl (by decide))).trans ((w_up_slot (by decide)).trans ((w_up_slot (by decide)).trans ((w_up_slot (by decide)).trans (l14))))))) (fun r454 => ?_)
                refine wb_iald 52 rfl (wy_pr rfl) wt_52 (n := (S 48 (-1))) ((w_up_at (by omega)).trans (((hns.2.2.2.2.1 52 (-1) (by decide) (by decide) (by decide) (Or.inl (by decide)) (Or.inl (by decide)) (Or.inl (by decide))).trans ((w_up_slot (by decide)).trans ((w_up_slot (by decide)).trans ((w_up_slot (by decide)).trans ((hl.2.2.1 4 (by decide))))))))) (by omega) (by omega) (v := (H.length : Int)) (w_up_same _ _ _ _) (fun r455 => ?_)
                refine wa_iconst ?_
                refine wa_icmpne (w_rg0 (by omega) (by omega)) (w_rg0 (by omega) (by omega)) ⟨_, rfl⟩ (fun c456 => ?_) (fun c456 => ?_)
                · skip
                  refine wa_return rfl ?_
                  have hcE : cEc (w_up Sq445 52 fo (H.length : Int)) kd nms (stE T kd nm gb ch (H.length : Int)) fo := by
                    have eN := eN (H.length : Int)
                    have eS := eS (H.length : Int)
                    have eL := eL (H.length : Int)
                    rw [eE] at eN eS eL ⊢
                    refine ⟨⟨(((w_up_slot (by first | decide | omega)).trans (((hns.2.2.2.2.1 48 fo (by first | decide | omega) (by first | decide | omega) (by first | decide | omega) (Or.inl (by first | decide | omega)) (Or.inl (by first | decide | omega)) (Or.inl (by first | decide | omega))).trans ((w_up_slot (by first | decide | omega)).trans ((w_up_slot (by first | decide | omega)).trans (w_up_slot (by first | decide | omega))))))) : (w_up Sq445 52 fo (H.length : Int)) 48 fo = (S 48 fo)).trans ?_, (((w_up_slot (by first | decide | omega)).trans (((hns.2.2.2.2.1 49 fo (by first | decide | omega) (by first | decide | omega) (by first | decide | omega) (Or.inl (by first | decide | omega)) (Or.inl (by first | decide | omega)) (Or.inl (by first | decide | omega))).trans ((w_up_slot (by first | decide | omega)).trans (w_up_same _ _ _ _))))) : (w_up Sq445 52 fo (H.length : Int)) 49 fo = sh).trans ?_, (((w_up_slot (by first | decide | omega)).trans (((hns.2.2.2.2.1 50 fo (by first | decide | omega) (by first | decide | omega) (by first | decide | omega) (Or.inl (by first | decide | omega)) (Or.inl (by first | decide | omega)) (Or.inl (by first | decide | omega))).trans ((w_up_slot (by first | decide | omega)).trans ((w_up_slot (by first | decide | omega)).trans (w_up_slot (by first | decide | omega))))))) : (w_up Sq445 52 fo (H.length : Int)) 50 fo = (S 50 fo)).trans ?_, (((w_up_slot (by first | decide | omega)).trans (((hns.2.2.2.2.1 51 fo (by first | decide | omega) (by first | decide | omega) (by first | decide | omega) (Or.inl (by first | decide | omega)) (Or.inl (by first | decide | omega)) (Or.inl (by first | decide | omega))).trans (w_up_same _ _ _ _)))) : (w_up Sq445 52 fo (H.length : Int)) 51 fo = i1).trans ?_, ((w_up_same _ _ _ _) : (w_up Sq445 52 fo (H.length : Int)) 52 fo = (H.length : Int)).trans ?_⟩, ((((w_up_slot (by first | decide | omega)).trans (((hns.2.2.2.2.1 53 fo (by first | decide | omega) (by first | decide | omega) (by first | decide | omega) (Or.inl (by first | decide | omega)) (Or.inl (by first | decide | omega)) (Or.inl (by first | decide | omega))).trans ((w_up_slot (by first | decide | omega)).trans ((w_up_slot (by first | decide | omega)).trans (w_up_same _ _ _ _)))))) : (w_up Sq445 52 fo (H.length : Int)) 53 fo = nm).trans ?_).trans eN.symm, ((((w_up_slot (by first | decide | omega)).trans (((hns.2.2.2.2.1 54 fo (by first | decide | omega) (by first | decide | omega) (by first | decide | omega) (Or.inl (by first | decide | omega)) (Or.inl (by first | decide | omega)) (Or.inl (by first | decide | omega))).trans ((w_up_slot (by first | decide | omega)).trans ((w_up_slot (by first | decide | omega)).trans (w_up_slot (by first | decide | omega))))))) : (w_up Sq445 52 fo (H.length : Int)) 54 fo = (S 54 fo)).trans ?_).trans eS.symm, ((((w_up_slot (by first | decide | omega)).trans (((hns.2.2.2.2.1 55 fo (by first | decide | omega) (by first | decide | omega) (by first | decide | omega) (Or.inl (by first | decide | omega)) (Or.inl (by first | decide | omega)) (Or.inl (by first | decide | omega))).trans ((w_up_slot (by first | decide | omega)).trans ((w_up_slot (by first | decide | omega)).trans (w_up_slot (by first | decide | omega))))))) : (w_up Sq445 52 fo (H.length : Int)) 55 fo = (S 55 fo)).trans ?_).trans eL.1.symm, ((((w_up_slot (by first | decide | omega)).trans (((hns.2.2.2.2.1 56 fo (by first | decide | omega) (by first | decide | omega) (by first | decide | omega) (Or.inl (by first | decide | omega)) (Or.inl (by first | decide | omega)) (Or.inl (by first | decide | omega))).trans ((w_up_slot (by first | decide | omega)).trans ((w_up_slot (by first | decide | omega)).trans (w_up_slot (by first | decide | omega))))))) : (w_up Sq445 52 fo (H.length : Int)) 56 fo = (S 56 fo)).trans ?_).trans eL.2.symm⟩
                    all_goals first | rfl | exact q1 | exact q3 | exact q5 | exact q7 | exact q8 | exact q9
                  exact ⟨rfl, Or.inr (Or.inr (Or.inl ⟨by omega, hr0, by rw [← e15]; exact hu4, hcE, (w_up (w_up (w_up S 53 fo nm) 49 fo sh) 51 fo i1), Sq445, fX, hI2, hR2, hns, fun j x hj => w_up_no (by omega)⟩))⟩
                · skip
                  exact absurd c456 (by omega)
          · skip
            exfalso; omega
      · skip
        exfalso; omega
    · skip
      exfalso; omega
end Wgk
