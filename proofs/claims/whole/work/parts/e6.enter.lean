/-! PART e6: the class's enter. -/
section We6
variable {xs : List (Nat × List Int32)} {M : Nat → Prop} {d : Nat} {S Z A B : wS} {Q : wO → wS → Prop}
/-- variables of a call get their values -/
def ev_ag (w : Nat) (st vn es pl : Int) (S Z : wS) : Prop := (∀ i : Int, 0 ≤ i → i < vn → Z 141 (st + i) = (if i < es then S (w + 2) (pl + 1 + i) else 0) ∧ Z 142 (st + i) = (if i < es then S (w + 3) (pl + 1 + i) else 0)) ∧ ∀ (j : Nat) (i : Int), ((j ≠ 141 ∧ j ≠ 142) ∨ i < st ∨ st + vn ≤ i) → Z j i = S j i
theorem ev_0 {w : Nat} {st es pl : Int} : ev_ag w st 0 es pl S S := ⟨fun i h0 h1 => by omega, fun _ _ _ => rfl⟩
theorem ev_s {w : Nat} {st vn es pl k v : Int} (h : ev_ag w st vn es pl S Z) (hv : 0 ≤ vn) (hk : k = (if vn < es then S (w + 2) (pl + 1 + vn) else 0)) (hb : v = (if vn < es then S (w + 3) (pl + 1 + vn) else 0)) : ev_ag w st (vn + 1) es pl S (w_up (w_up Z 141 (st + vn) k) 142 (st + vn) v) := by
  refine ⟨fun i h0 h1 => ?_, fun j i hj => (w_up_no (by omega)).trans ((w_up_no (by omega)).trans (h.2 j i (by omega)))⟩
  by_cases e : i = vn
  · subst e
    rw [w_up_slot (by decide), w_up_same, w_up_same]
    exact ⟨hk, hb⟩
  · rw [w_up_no (by omega), w_up_no (by omega), w_up_no (by omega), w_up_no (by omega)]
    exact h.1 i h0 (by omega)
theorem el_215 {fn pl kd bt nw f vs es n st : Int} (hst : 0 ≤ st ∧ st + vs ≤ S 141 (-1)) (hl : S 142 (-1) = S 141 (-1)) (hvs : vs ≤ 1000) (hes : pl + 1 + es ≤ S 217 (-1)) (her : -10000 ≤ es ∧ es ≤ 10000) (hpl : 0 ≤ pl ∧ pl ≤ 4095) (hl3 : S 218 (-1) = S 217 (-1)) (hlz : S 141 (-1) ≤ 8388608) : ∀ (g : Nat) (i : Int) (Z : wS), vs - i < g → 0 ≤ i → i ≤ vs → ev_ag 215 st i es pl S Z → (∀ Z : wS, ev_ag 215 st vs es pl S Z → wJ (pe_GA xs) wY0 M (d + 2) t_XK_enter ((pe_at t_XK_enter.bl 5).getD (0, [])).2 [(0, (2, 215)), (1, (0, fn)), (2, (0, pl)), (3, (0, kd)), (4, (1, bt)), (6, (0, nw)), (7, (0, f)), (8, (0, vs)), (9, (0, es)), (10, (0, n)), (11, (0, st)), (12, (0, vs))] [] Z Q) → wJ (pe_GA xs) wY0 M (d + 2) t_XK_enter ((pe_at t_XK_enter.bl 2).getD (0, [])).2 [(0, (2, 215)), (1, (0, fn)), (2, (0, pl)), (3, (0, kd)), (4, (1, bt)), (6, (0, nw)), (7, (0, f)), (8, (0, vs)), (9, (0, es)), (10, (0, n)), (11, (0, st)), (12, (0, i))] [] Z Q := by
  intro g
  induction g with
  | zero => intro i Z h1 h2 h3; omega
  | succ g ih =>
    intro i Z h1 h2 h3 hv hk
    have q41 : Z 141 (-1) = S 141 (-1) := hv.2 141 (-1) (by omega)
    have q42 : Z 142 (-1) = S 141 (-1) := (hv.2 142 (-1) (by omega)).trans hl
    have r2 : Z 217 (-1) = S 217 (-1) := hv.2 217 (-1) (by omega)
    have r3 : Z 218 (-1) = S 217 (-1) := (hv.2 218 (-1) (by omega)).trans hl3
    have e2 : ∀ x : Int, Z 217 x = S 217 x := fun x => hv.2 217 x (by omega)
    have e3 : ∀ x : Int, Z 218 x = S 218 x := fun x => hv.2 218 x (by omega)
    refine wa_iload (n := 12) rfl ?_
    refine wa_iload (n := 8) rfl ?_
    refine wa_icmpge (w_rg0 (by omega) (by omega)) (w_rg0 (by omega) (by omega)) ⟨_, rfl⟩ (fun c301 => ?_) (fun c301 => ?_)
    · skip
      have hiv : i = vs := by omega
      subst hiv
      exact wJ_S (hk Z hv) ⟨rfl, rfl, rfl, rfl, rfl, rfl, rfl, rfl, rfl, rfl, rfl, rfl, trivial⟩
    · skip
      refine wa_iload (n := 12) rfl ?_
      refine wa_iload (n := 9) rfl ?_
      refine wa_icmpge (w_rg0 (by omega) (by omega)) (w_rg0 (by omega) (by omega)) ⟨_, rfl⟩ (fun c302 => ?_) (fun c302 => ?_)
      · skip
        refine wa_aload_n (n := 0) rfl ?_
        refine wb_gf4 215 rfl (wy_pr rfl) wt_215 wf_8_0 (v := 72) wl_215_0 ?_
        refine wb_gf4 72 rfl (wy_pr rfl) wt_72 wf_2_6 (v := 140) wl_72_6 ?_
        refine wa_iload (n := 11) rfl ?_
        refine wa_iload (n := 12) rfl ?_
        refine wa_iadd ?_
        refine wa_iconst ?_
        refine wb_lconst (m := 0) rfl ?_
        refine wa_cv 140 rfl (wy_pr rfl) wt_140 (M2 := fun _ => False) rfl at_XV_put ⟨_, rfl⟩ rfl rfl ⟨(Or.inr ⟨wy_pr rfl, fun q => q⟩), trivial, trivial, trivial, trivial, trivial, trivial, trivial, trivial, trivial, trivial, trivial, trivial⟩ trivial (fun _ _ q => False.elim q) ?_ (fun _ _ _ q => q)
        refine wa_aload_n (n := 0) rfl ?_
        refine wb_gf4 140 rfl (wy_pr rfl) wt_140 wf_7_0 (v := 141) wl_140_0 ?_
        refine wa_iload_n (n := 1) rfl ?_
        refine wa_iload_n (n := 2) rfl ?_
        refine wb_i2b_r (wb_i2b_id ⟨(by omega), (by omega)⟩) ?_
        refine wb_bast 141 rfl (wy_pr rfl) wt_141 (n := (S 141 (-1))) (q41) (by omega) (by omega) ⟨(by omega), (by omega)⟩ ?_
        refine wa_aload_n (n := 0) rfl ?_
        refine wb_gf4 140 rfl (wy_pr rfl) wt_140 wf_7_1 (v := 142) wl_140_1 ?_
        refine wa_iload_n (n := 1) rfl ?_
        refine wa_lload_n (n := 3) rfl ?_
        refine wb_last 142 rfl (wy_pr rfl) wt_142 (n := (S 141 (-1))) ((w_up_slot (by decide)).trans (q42)) (by omega) (by omega) ⟨(by omega), (by omega)⟩ ?_
        refine wa_return rfl ?_
        show wJ _ _ _ _ _ _ _ _ _ _
        refine wa_fall ⟨_, rfl⟩ ?_
        refine wa_iinc rfl rfl ?_
        refine wa_goto ⟨_, rfl⟩ ?_
        exact wJ_S (ih (i + 1) _ (by omega) (by omega) (by omega) (ev_s hv h2 (if_neg (by omega)).symm (if_neg (by omega)).symm) hk) ⟨rfl, rfl, rfl, rfl, rfl, rfl, rfl, rfl, rfl, rfl, rfl, rfl, trivial⟩
      · skip
        refine wa_aload_n (n := 0) rfl ?_
        refine wb_gf4 215 rfl (wy_pr rfl) wt_215 wf_8_0 (v := 72) wl_215_0 ?_
        refine wb_gf4 72 rfl (wy_pr rfl) wt_72 wf_2_6 (v := 140) wl_72_6 ?_
        refine wa_iload (n := 11) rfl ?_
        refine wa_iload (n := 12) rfl ?_
        refine wa_iadd ?_
        refine wa_aload_n (n := 0) rfl ?_
        refine wb_gf4 215 rfl (wy_pr rfl) wt_215 wf_8_3 (v := 216) wl_215_3 ?_
        refine wb_gf4 216 rfl (wy_pr rfl) wt_216 wf_7_0 (v := 217) wl_216_0 ?_
        refine wa_iload_n (n := 2) rfl ?_
        refine wa_iconst ?_
        refine wa_iadd ?_
        refine wa_iload (n := 12) rfl ?_
        refine wa_iadd ?_
        refine wb_bald 217 rfl (wy_pr rfl) wt_217 (n := (S 217 (-1))) (r2) (by omega) (by omega) (v := (S 217 ((pl + 1) + i))) ((e2 ((pl + 1) + i))) (fun r303 => ?_)
        refine wa_aload_n (n := 0) rfl ?_
        refine wb_gf4 215 rfl (wy_pr rfl) wt_215 wf_8_3 (v := 216) wl_215_3 ?_
        refine wb_gf4 216 rfl (wy_pr rfl) wt_216 wf_7_1 (v := 218) wl_216_1 ?_
        refine wa_iload_n (n := 2) rfl ?_
        refine wa_iconst ?_
        refine wa_iadd ?_
        refine wa_iload (n := 12) rfl ?_
        refine wa_iadd ?_
        refine wb_lald 218 rfl (wy_pr rfl) wt_218 (n := (S 217 (-1))) (r3) (by omega) (by omega) (v := (S 218 ((pl + 1) + i))) ((e3 ((pl + 1) + i))) (fun r304 => ?_)
        refine wa_cv 140 rfl (wy_pr rfl) wt_140 (M2 := fun _ => False) rfl at_XV_put ⟨_, rfl⟩ rfl rfl ⟨(Or.inr ⟨wy_pr rfl, fun q => q⟩), trivial, trivial, trivial, trivial, trivial, trivial, trivial, trivial, trivial, trivial, trivial, trivial⟩ trivial (fun _ _ q => False.elim q) ?_ (fun _ _ _ q => q)
        refine wa_aload_n (n := 0) rfl ?_
        refine wb_gf4 140 rfl (wy_pr rfl) wt_140 wf_7_0 (v := 141) wl_140_0 ?_
        refine wa_iload_n (n := 1) rfl ?_
        refine wa_iload_n (n := 2) rfl ?_
        refine wb_i2b_r (wb_i2b_id ⟨(by omega), (by omega)⟩) ?_
        refine wb_bast 141 rfl (wy_pr rfl) wt_141 (n := (S 141 (-1))) (q41) (by omega) (by omega) ⟨(by omega), (by omega)⟩ ?_
        refine wa_aload_n (n := 0) rfl ?_
        refine wb_gf4 140 rfl (wy_pr rfl) wt_140 wf_7_1 (v := 142) wl_140_1 ?_
        refine wa_iload_n (n := 1) rfl ?_
        refine wa_lload_n (n := 3) rfl ?_
        refine wb_last 142 rfl (wy_pr rfl) wt_142 (n := (S 141 (-1))) ((w_up_slot (by decide)).trans (q42)) (by omega) (by omega) ⟨(by omega), (by omega)⟩ ?_
        refine wa_return rfl ?_
        show wJ _ _ _ _ _ _ _ _ _ _
        refine wa_goto ⟨_, rfl⟩ ?_
        refine wa_iinc rfl rfl ?_
        refine wa_goto ⟨_, rfl⟩ ?_
        exact wJ_S (ih (i + 1) _ (by omega) (by omega) (by omega) (ev_s hv h2 (if_pos (by omega)).symm (if_pos (by omega)).symm) hk) ⟨rfl, rfl, rfl, rfl, rfl, rfl, rfl, rfl, rfl, rfl, rfl, rfl, trivial⟩
/-- a fun is called -/
def enQ_215 (ar vs es pl c p f n kd bt nw cs : Int) (S Z : wS) : Prop := ∃ A B : wS, ac_ag ar vs S A ∧ ev_ag 215 cs vs es pl A B ∧ w_up (w_up (w_up (w_up (w_up (w_up (w_up (w_up (w_up B 216 2 pl) 220 (c - 1) (p + 1)) 219 c f) 220 c 0) 221 c n) 222 c kd) 223 c bt) 224 c nw) 215 4 (c + 1) = Z
set_option maxHeartbeats 4000000 in
theorem en_215 {fn pl kd bt nw f ar vs pn c p h cs n u0 v0 : Int} (hC : w_CL S) (hI : gI S) (h2 : S 140 2 = cs) (hcs : 0 ≤ cs ∧ cs ≤ S 141 (-1)) (hl : S 142 (-1) = S 141 (-1)) (hz : 16 ≤ S 141 (-1) ∧ S 141 (-1) ≤ 480400) (hcl : S 139 (-1) = S 138 (-1)) (hm : S 72 5 = n) (hm1 : 0 ≤ n ∧ n ≤ S 138 (-1)) (hm2 : 64 ≤ S 138 (-1) ∧ S 138 (-1) ≤ 16383) (hu0 : S 150 0 = u0) (hu1 : 0 ≤ u0 ∧ u0 ≤ 8000) (hv0 : S 150 1 = v0) (hv1 : 0 ≤ v0 ∧ v0 ≤ 60000) (hth : S 129 (-1) = S 127 (-1) ∧ S 136 (-1) = S 127 (-1)) (hn : 0 ≤ fn ∧ fn < S 127 (-1)) (hf : S 129 fn = f) (hf1 : 0 ≤ f ∧ f < 400) (har : S 136 fn = ar) (hvs : S 23 f = vs) (hvs1 : 0 ≤ vs ∧ vs ≤ 1000) (hpn : S 22 f = pn) (hpn1 : 0 ≤ pn ∧ pn ≤ 1000) (bc : S 215 4 = c) (bc0 : 1 ≤ c ∧ c < 200) (bp : S 220 (c - 1) = p) (bp0 : 0 ≤ p ∧ p ≤ 20000) (bh : S 216 2 = h) (bh0 : h ≤ S 217 (-1)) (bl : S 218 (-1) = S 217 (-1) ∧ S 217 (-1) ≤ 4095) (hpl : 0 ≤ pl ∧ pl < h) (hu2 : u0 < 8000) (hv2 : v0 + vs ≤ 60000) (hkd : -128 ≤ kd ∧ kd ≤ 127) (hbt : -9223372036854775808 ≤ bt ∧ bt ≤ 9223372036854775807) (hnw : 0 ≤ nw ∧ nw ≤ 1) : wJ (pe_GA xs) wY0 (mS [138, 139, 141, 142]) (d + 6) t_XK_enter ((pe_at t_XK_enter.bl 0).getD (0, [])).2 [(0, (2, 215)), (1, (0, fn)), (2, (0, pl)), (3, (0, kd)), (4, (1, bt)), (6, (0, nw))] [] S (fun o Z => o = .inl none ∧ enQ_215 ar vs (if h - pl - 1 ≤ pn then h - pl - 1 else pn) pl c p f n kd bt nw cs S Z) := by
  obtain ⟨hth1, hth2⟩ := hth
  obtain ⟨bl1, bl2⟩ := bl
  refine wa_aload_n (n := 0) rfl ?_
  refine wb_gf4 215 rfl (wy_pr rfl) wt_215 wf_8_0 (v := 72) wl_215_0 ?_
  refine wb_gf4 72 rfl (wy_pr rfl) wt_72 wf_2_2 (v := 126) wl_72_2 ?_
  refine wa_iconst ?_
  refine wb_aald5 126 2 rfl rfl (wy_pr rfl) wt_126 (by rw [show _ = _ from ((cl_126 hC))]; omega) wl_126_2 ?_
  refine wa_iload_n (n := 1) rfl ?_
  refine wb_iald 129 rfl (wy_pr rfl) wt_129 (n := (S 127 (-1))) (hth1) (by omega) (by omega) (v := f) (hf) (fun r1 => ?_)
  refine wa_istore (n := 7) rfl ?_
  refine wa_aload_n (n := 0) rfl ?_
  refine wb_gf4 215 rfl (wy_pr rfl) wt_215 wf_8_1 (v := 19) wl_215_1 ?_
  refine wb_gf4 19 rfl (wy_pr rfl) wt_19 wf_0_0 (v := 20) wl_19_0 ?_
  refine wa_iconst ?_
  refine wb_aald5 20 2 rfl rfl (wy_pr rfl) wt_20 (by rw [show _ = _ from ((cl_20 hC))]; omega) wl_20_2 ?_
  refine wa_iload (n := 7) rfl ?_
  refine wb_iald 23 rfl (wy_pr rfl) wt_23 (n := 400) ((cl_23 hC)) (by omega) (by omega) (v := vs) (hvs) (fun r2 => ?_)
  refine wa_istore (n := 8) rfl ?_
  refine wa_aload_n (n := 0) rfl ?_
  refine wb_gf4 215 rfl (wy_pr rfl) wt_215 wf_8_3 (v := 216) wl_215_3 ?_
  refine wb_gfi 216 rfl (wy_pr rfl) wt_216 wf_7_2 (v := h) (bh) (fun r3 => ?_)
  refine wa_iload_n (n := 2) rfl ?_
  refine wa_isub ?_
  refine wa_iconst ?_
  refine wa_isub ?_
  refine wa_aload_n (n := 0) rfl ?_
  refine wb_gf4 215 rfl (wy_pr rfl) wt_215 wf_8_1 (v := 19) wl_215_1 ?_
  refine wb_gf4 19 rfl (wy_pr rfl) wt_19 wf_0_0 (v := 20) wl_19_0 ?_
  refine wa_iconst ?_
  refine wb_aald5 20 1 rfl rfl (wy_pr rfl) wt_20 (by rw [show _ = _ from ((cl_20 hC))]; omega) wl_20_1 ?_
  refine wa_iload (n := 7) rfl ?_
  refine wb_iald 22 rfl (wy_pr rfl) wt_22 (n := 400) ((cl_22 hC)) (by omega) (by omega) (v := pn) (hpn) (fun r4 => ?_)
  refine wa_cs (M2 := mS [138, 139, 141, 142]) rfl at_JM_min ⟨_, rfl⟩ rfl rfl ⟨trivial, trivial, (Or.inr ⟨wy_pr rfl, mS_no rfl⟩), trivial, trivial, trivial, trivial, trivial, trivial⟩ trivial (fun _ _ q => q) ?_ (fun _ _ _ q => q)
  refine wa_iload_n (n := 0) rfl ?_
  refine wa_iload_n (n := 1) rfl ?_
  refine wa_icmpgt (w_rg0 (by omega) (by omega)) (w_rg0 (by omega) (by omega)) ⟨_, rfl⟩ (fun c5 => ?_) (fun c5 => ?_)
  · skip
    refine wa_iload_n (n := 1) rfl ?_
    refine wa_fall ⟨_, rfl⟩ ?_
    refine wa_ireturn rfl ?_
    show wJ _ _ _ _ _ _ _ _ _ _
    refine wa_istore (n := 9) rfl ?_
    refine wa_aload_n (n := 0) rfl ?_
    refine wb_gf4 215 rfl (wy_pr rfl) wt_215 wf_8_0 (v := 72) wl_215_0 ?_
    refine wa_aload_n (n := 0) rfl ?_
    refine wb_gf4 215 rfl (wy_pr rfl) wt_215 wf_8_0 (v := 72) wl_215_0 ?_
    refine wb_gf4 72 rfl (wy_pr rfl) wt_72 wf_2_2 (v := 126) wl_72_2 ?_
    refine wa_bipush (w_rg2 (by omega) (by omega)) ?_
    refine wb_aald5 126 9 rfl rfl (wy_pr rfl) wt_126 (by rw [show _ = _ from ((cl_126 hC))]; omega) wl_126_9 ?_
    refine wa_iload_n (n := 1) rfl ?_
    refine wa_fall ⟨_, rfl⟩ ?_
    refine wb_iald 136 rfl (wy_pr rfl) wt_136 (n := (S 127 (-1))) (hth2) (by omega) (by omega) (v := ar) (har) (fun r6 => ?_)
    refine wa_iload (n := 8) rfl ?_
    refine wa_cv 72 rfl (wy_pr rfl) wt_72 (M2 := mS [138, 139, 141, 142]) rfl at_XH_addCall ⟨_, rfl⟩ rfl rfl ⟨trivial, trivial, trivial, (Or.inr ⟨wy_pr rfl, mS_no rfl⟩), trivial, trivial, trivial, trivial, trivial, trivial⟩ trivial (fun _ _ q => mS_sub (by decide) q) (ac_ok (S := S) (ar := ar) (vn := vs) hC hI h2 hcs hl hz hcl hm hm1 hm2 hu0 ⟨by omega, by omega⟩ hv0 ⟨by omega, by omega⟩ ⟨by omega, by omega⟩ ⟨by omega, by omega⟩) (fun oq7 Sq7 hp8 q7 => ?_)
    rcases q7 with ⟨rfl, ac7⟩
    show wJ _ _ _ _ _ _ _ _ _ _
    have ac7x := ac7.2.2.2.2.2.1
    have ac7y := ac7.2.2.2.2.2.2.1
    refine wa_istore (n := 10) rfl ?_
    refine wa_aload_n (n := 0) rfl ?_
    refine wb_gf4 215 rfl (wy_pr rfl) wt_215 wf_8_0 (v := 72) wl_215_0 ?_
    refine wb_gf4 72 rfl (wy_pr rfl) wt_72 wf_2_4 (v := 137) wl_72_4 ?_
    refine wa_iconst ?_
    refine wb_aald5 137 0 rfl rfl (wy_pr rfl) wt_137 (by rw [show _ = _ from (((ac7.2.2.2.2.2.2.2.1 137 (-1) (by decide) (by decide) (by decide) (by decide) (by decide) (by decide) (Or.inl (by decide)) (Or.inl (by decide)) (Or.inl (by decide))).trans ((cl_137 hC))))]; omega) wl_137_0 ?_
    refine wa_iload (n := 10) rfl ?_
    refine wb_iald 138 rfl (wy_pr rfl) wt_138 (n := (Sq7 138 (-1))) (rfl) (by omega) (by omega) (v := cs) ((by rw [← hm]; exact ac7.2.1.1.trans h2)) (fun r9 => ?_)
    refine wa_istore (n := 11) rfl ?_
    refine wa_iconst ?_
    refine wa_istore (n := 12) rfl ?_
    refine wa_fall ⟨_, rfl⟩ ?_
    have zl2 : Sq7 217 (-1) = S 217 (-1) := (((ac7.2.2.2.2.2.2.2.1 217 (-1) (by decide) (by decide) (by decide) (by decide) (by decide) (by decide) (Or.inl (by decide)) (Or.inl (by decide)) (Or.inl (by decide))).trans (rfl)))
    have zl3 : Sq7 218 (-1) = Sq7 217 (-1) := ((((ac7.2.2.2.2.2.2.2.1 218 (-1) (by decide) (by decide) (by decide) (by decide) (by decide) (by decide) (Or.inl (by decide)) (Or.inl (by decide)) (Or.inl (by decide))).trans (bl1))) : Sq7 218 (-1) = S 217 (-1)).trans zl2.symm
    rw [h2] at ac7x
    refine wJ_S (el_215 (S := Sq7) (fn := fn) (pl := pl) (kd := kd) (bt := bt) (nw := nw) (f := f) (vs := vs) (es := pn) (n := n) (st := cs) ⟨by omega, by omega⟩ ac7x.1 (by omega) (by omega) ⟨by omega, by omega⟩ ⟨by omega, by omega⟩ zl3 (by omega) (vs + 1).toNat 0 Sq7 (by omega) (by omega) (by omega) ev_0 (fun Zb hev => ?_)) ⟨rfl, rfl, rfl, rfl, rfl, rfl, rfl, rfl, rfl, rfl, rfl, rfl, trivial⟩
    refine wa_aload_n (n := 0) rfl ?_
    refine wb_gf4 215 rfl (wy_pr rfl) wt_215 wf_8_3 (v := 216) wl_215_3 ?_
    refine wa_iload_n (n := 2) rfl ?_
    refine wb_pfi 216 rfl (wy_pr rfl) wt_216 wf_7_2 (n := 2) rfl ⟨(by omega), (by omega)⟩ ?_
    refine wa_aload_n (n := 0) rfl ?_
    refine wb_gf4 215 rfl (wy_pr rfl) wt_215 wf_8_6 (v := 220) wl_215_6 ?_
    refine wa_aload_n (n := 0) rfl ?_
    refine wb_gfi 215 rfl (wy_pr rfl) wt_215 wf_8_4 (v := c) ((w_up_slot (by decide)).trans (((hev.2 215 4 (by omega)).trans (((ac7.2.2.2.2.2.2.2.1 215 4 (by decide) (by decide) (by decide) (by decide) (by decide) (by decide) (Or.inl (by decide)) (Or.inl (by decide)) (Or.inl (by decide))).trans (bc)))))) (fun r10 => ?_)
    refine wa_iconst ?_
    refine wa_isub ?_
    refine wa_dup2 (by decide) (by decide) ?_
    refine wb_iald 220 rfl (wy_pr rfl) wt_220 (n := 200) ((w_up_slot (by decide)).trans (((hev.2 220 (-1) (by omega)).trans (((ac7.2.2.2.2.2.2.2.1 220 (-1) (by decide) (by decide) (by decide) (by decide) (by decide) (by decide) (Or.inl (by decide)) (Or.inl (by decide)) (Or.inl (by decide))).trans ((cl_220 hC))))))) (by omega) (by omega) (v := p) ((w_up_slot (by decide)).trans (((hev.2 220 (c - 1) (by omega)).trans (((ac7.2.2.2.2.2.2.2.1 220 (c - 1) (by decide) (by decide) (by decide) (by decide) (by decide) (by decide) (Or.inl (by decide)) (Or.inl (by decide)) (Or.inl (by decide))).trans (bp)))))) (fun r11 => ?_)
    refine wa_iconst ?_
    refine wa_iadd ?_
    refine wb_iast 220 rfl (wy_pr rfl) wt_220 (n := 200) ((w_up_slot (by decide)).trans (((hev.2 220 (-1) (by omega)).trans (((ac7.2.2.2.2.2.2.2.1 220 (-1) (by decide) (by decide) (by decide) (by decide) (by decide) (by decide) (Or.inl (by decide)) (Or.inl (by decide)) (Or.inl (by decide))).trans ((cl_220 hC))))))) (by omega) (by omega) ⟨(by omega), (by omega)⟩ ?_
    refine wa_aload_n (n := 0) rfl ?_
    refine wa_iload (n := 7) rfl ?_
    refine wa_iload (n := 10) rfl ?_
    refine wa_iload_n (n := 3) rfl ?_
    refine wa_lload (n := 4) rfl ?_
    refine wa_iload (n := 6) rfl ?_
    refine wa_cv 215 rfl (wy_pr rfl) wt_215 (M2 := mS [138, 139, 141, 142]) rfl at_XK_push ⟨_, rfl⟩ rfl rfl ⟨(Or.inr ⟨wy_pr rfl, mS_no rfl⟩), trivial, trivial, trivial, trivial, trivial, trivial, trivial, trivial, trivial, trivial, trivial, trivial⟩ trivial (fun _ _ q => q) ?_ (fun _ _ _ q => q)
    refine wa_aload_n (n := 0) rfl ?_
    refine wb_gf4 215 rfl (wy_pr rfl) wt_215 wf_8_5 (v := 219) wl_215_5 ?_
    refine wa_aload_n (n := 0) rfl ?_
    refine wb_gfi 215 rfl (wy_pr rfl) wt_215 wf_8_4 (v := c) ((w_up_slot (by decide)).trans ((w_up_slot (by decide)).trans (((hev.2 215 4 (by omega)).trans (((ac7.2.2.2.2.2.2.2.1 215 4 (by decide) (by decide) (by decide) (by decide) (by decide) (by decide) (Or.inl (by decide)) (Or.inl (by decide)) (Or.inl (by decide))).trans (bc))))))) (fun r12 => ?_)
    refine wa_iload_n (n := 1) rfl ?_
    refine wb_iast 219 rfl (wy_pr rfl) wt_219 (n := 200) ((w_up_slot (by decide)).trans ((w_up_slot (by decide)).trans (((hev.2 219 (-1) (by omega)).trans (((ac7.2.2.2.2.2.2.2.1 219 (-1) (by decide) (by decide) (by decide) (by decide) (by decide) (by decide) (Or.inl (by decide)) (Or.inl (by decide)) (Or.inl (by decide))).trans ((cl_219 hC)))))))) (by omega) (by omega) ⟨(by omega), (by omega)⟩ ?_
    refine wa_aload_n (n := 0) rfl ?_
    refine wb_gf4 215 rfl (wy_pr rfl) wt_215 wf_8_6 (v := 220) wl_215_6 ?_
    refine wa_aload_n (n := 0) rfl ?_
    refine wb_gfi 215 rfl (wy_pr rfl) wt_215 wf_8_4 (v := c) ((w_up_slot (by decide)).trans ((w_up_slot (by decide)).trans ((w_up_slot (by decide)).trans (((hev.2 215 4 (by omega)).trans (((ac7.2.2.2.2.2.2.2.1 215 4 (by decide) (by decide) (by decide) (by decide) (by decide) (by decide) (Or.inl (by decide)) (Or.inl (by decide)) (Or.inl (by decide))).trans (bc)))))))) (fun r13 => ?_)
    refine wa_iconst ?_
    refine wb_iast 220 rfl (wy_pr rfl) wt_220 (n := 200) ((w_up_slot (by decide)).trans ((w_up_at (by omega)).trans ((w_up_slot (by decide)).trans (((hev.2 220 (-1) (by omega)).trans (((ac7.2.2.2.2.2.2.2.1 220 (-1) (by decide) (by decide) (by decide) (by decide) (by decide) (by decide) (Or.inl (by decide)) (Or.inl (by decide)) (Or.inl (by decide))).trans ((cl_220 hC))))))))) (by omega) (by omega) ⟨(by omega), (by omega)⟩ ?_
    refine wa_aload_n (n := 0) rfl ?_
    refine wb_gf4 215 rfl (wy_pr rfl) wt_215 wf_8_7 (v := 221) wl_215_7 ?_
    refine wa_aload_n (n := 0) rfl ?_
    refine wb_gfi 215 rfl (wy_pr rfl) wt_215 wf_8_4 (v := c) ((w_up_slot (by decide)).trans ((w_up_slot (by decide)).trans ((w_up_slot (by decide)).trans ((w_up_slot (by decide)).trans (((hev.2 215 4 (by omega)).trans (((ac7.2.2.2.2.2.2.2.1 215 4 (by decide) (by decide) (by decide) (by decide) (by decide) (by decide) (Or.inl (by decide)) (Or.inl (by decide)) (Or.inl (by decide))).trans (bc))))))))) (fun r14 => ?_)
    refine wa_iload_n (n := 2) rfl ?_
    refine wb_iast 221 rfl (wy_pr rfl) wt_221 (n := 200) ((w_up_slot (by decide)).trans ((w_up_slot (by decide)).trans ((w_up_slot (by decide)).trans ((w_up_slot (by decide)).trans (((hev.2 221 (-1) (by omega)).trans (((ac7.2.2.2.2.2.2.2.1 221 (-1) (by decide) (by decide) (by decide) (by decide) (by decide) (by decide) (Or.inl (by decide)) (Or.inl (by decide)) (Or.inl (by decide))).trans ((cl_221 hC)))))))))) (by omega) (by omega) ⟨(by omega), (by omega)⟩ ?_
    refine wa_aload_n (n := 0) rfl ?_
    refine wb_gf4 215 rfl (wy_pr rfl) wt_215 wf_8_8 (v := 222) wl_215_8 ?_
    refine wa_aload_n (n := 0) rfl ?_
    refine wb_gfi 215 rfl (wy_pr rfl) wt_215 wf_8_4 (v := c) ((w_up_slot (by decide)).trans ((w_up_slot (by decide)).trans ((w_up_slot (by decide)).trans ((w_up_slot (by decide)).trans ((w_up_slot (by decide)).trans (((hev.2 215 4 (by omega)).trans (((ac7.2.2.2.2.2.2.2.1 215 4 (by decide) (by decide) (by decide) (by decide) (by decide) (by decide) (Or.inl (by decide)) (Or.inl (by decide)) (Or.inl (by decide))).trans (bc)))))))))) (fun r15 => ?_)
    refine wa_iload_n (n := 3) rfl ?_
    refine wb_i2b_r (wb_i2b_id ⟨(by omega), (by omega)⟩) ?_
    refine wb_bast 222 rfl (wy_pr rfl) wt_222 (n := 200) ((w_up_slot (by decide)).trans ((w_up_slot (by decide)).trans ((w_up_slot (by decide)).trans ((w_up_slot (by decide)).trans ((w_up_slot (by decide)).trans (((hev.2 222 (-1) (by omega)).trans (((ac7.2.2.2.2.2.2.2.1 222 (-1) (by decide) (by decide) (by decide) (by decide) (by decide) (by decide) (Or.inl (by decide)) (Or.inl (by decide)) (Or.inl (by decide))).trans ((cl_222 hC))))))))))) (by omega) (by omega) ⟨(by omega), (by omega)⟩ ?_
    refine wa_aload_n (n := 0) rfl ?_
    refine wb_gf4 215 rfl (wy_pr rfl) wt_215 wf_8_9 (v := 223) wl_215_9 ?_
    refine wa_aload_n (n := 0) rfl ?_
    refine wb_gfi 215 rfl (wy_pr rfl) wt_215 wf_8_4 (v := c) ((w_up_slot (by decide)).trans ((w_up_slot (by decide)).trans ((w_up_slot (by decide)).trans ((w_up_slot (by decide)).trans ((w_up_slot (by decide)).trans ((w_up_slot (by decide)).trans (((hev.2 215 4 (by omega)).trans (((ac7.2.2.2.2.2.2.2.1 215 4 (by decide) (by decide) (by decide) (by decide) (by decide) (by decide) (Or.inl (by decide)) (Or.inl (by decide)) (Or.inl (by decide))).trans (bc))))))))))) (fun r16 => ?_)
    refine wa_lload (n := 4) rfl ?_
    refine wb_last 223 rfl (wy_pr rfl) wt_223 (n := 200) ((w_up_slot (by decide)).trans ((w_up_slot (by decide)).trans ((w_up_slot (by decide)).trans ((w_up_slot (by decide)).trans ((w_up_slot (by decide)).trans ((w_up_slot (by decide)).trans (((hev.2 223 (-1) (by omega)).trans (((ac7.2.2.2.2.2.2.2.1 223 (-1) (by decide) (by decide) (by decide) (by decide) (by decide) (by decide) (Or.inl (by decide)) (Or.inl (by decide)) (Or.inl (by decide))).trans ((cl_223 hC)))))))))))) (by omega) (by omega) ⟨(by omega), (by omega)⟩ ?_
    refine wa_aload_n (n := 0) rfl ?_
    refine wb_gf4 215 rfl (wy_pr rfl) wt_215 wf_8_10 (v := 224) wl_215_10 ?_
    refine wa_aload_n (n := 0) rfl ?_
    refine wb_gfi 215 rfl (wy_pr rfl) wt_215 wf_8_4 (v := c) ((w_up_slot (by decide)).trans ((w_up_slot (by decide)).trans ((w_up_slot (by decide)).trans ((w_up_slot (by decide)).trans ((w_up_slot (by decide)).trans ((w_up_slot (by decide)).trans ((w_up_slot (by decide)).trans (((hev.2 215 4 (by omega)).trans (((ac7.2.2.2.2.2.2.2.1 215 4 (by decide) (by decide) (by decide) (by decide) (by decide) (by decide) (Or.inl (by decide)) (Or.inl (by decide)) (Or.inl (by decide))).trans (bc)))))))))))) (fun r17 => ?_)
    refine wa_iload (n := 6) rfl ?_
    refine wb_zast 224 rfl (wy_pr rfl) wt_224 (n := 200) ((w_up_slot (by decide)).trans ((w_up_slot (by decide)).trans ((w_up_slot (by decide)).trans ((w_up_slot (by decide)).trans ((w_up_slot (by decide)).trans ((w_up_slot (by decide)).trans ((w_up_slot (by decide)).trans (((hev.2 224 (-1) (by omega)).trans (((ac7.2.2.2.2.2.2.2.1 224 (-1) (by decide) (by decide) (by decide) (by decide) (by decide) (by decide) (Or.inl (by decide)) (Or.inl (by decide)) (Or.inl (by decide))).trans ((cl_224 hC))))))))))))) (by omega) (by omega) ⟨(by omega), (by omega)⟩ ?_
    refine wa_aload_n (n := 0) rfl ?_
    refine wa_dup (by decide) ?_
    refine wb_gfi 215 rfl (wy_pr rfl) wt_215 wf_8_4 (v := c) ((w_up_slot (by decide)).trans ((w_up_slot (by decide)).trans ((w_up_slot (by decide)).trans ((w_up_slot (by decide)).trans ((w_up_slot (by decide)).trans ((w_up_slot (by decide)).trans ((w_up_slot (by decide)).trans ((w_up_slot (by decide)).trans (((hev.2 215 4 (by omega)).trans (((ac7.2.2.2.2.2.2.2.1 215 4 (by decide) (by decide) (by decide) (by decide) (by decide) (by decide) (Or.inl (by decide)) (Or.inl (by decide)) (Or.inl (by decide))).trans (bc))))))))))))) (fun r18 => ?_)
    refine wa_iconst ?_
    refine wa_iadd ?_
    refine wb_pfi 215 rfl (wy_pr rfl) wt_215 wf_8_4 (n := 4) rfl ⟨(by omega), (by omega)⟩ ?_
    refine wa_return rfl ?_
    show wJ _ _ _ _ _ _ _ _ _ _
    refine wa_return rfl ?_
    refine ⟨rfl, ?_⟩
    first | rw [if_pos (by omega)] | rw [if_neg (by omega)]
    exact ⟨_, Zb, ac7, hev, rfl⟩
  · skip
    refine wa_iload_n (n := 0) rfl ?_
    refine wa_goto ⟨_, rfl⟩ ?_
    refine wa_ireturn rfl ?_
    show wJ _ _ _ _ _ _ _ _ _ _
    refine wa_istore (n := 9) rfl ?_
    refine wa_aload_n (n := 0) rfl ?_
    refine wb_gf4 215 rfl (wy_pr rfl) wt_215 wf_8_0 (v := 72) wl_215_0 ?_
    refine wa_aload_n (n := 0) rfl ?_
    refine wb_gf4 215 rfl (wy_pr rfl) wt_215 wf_8_0 (v := 72) wl_215_0 ?_
    refine wb_gf4 72 rfl (wy_pr rfl) wt_72 wf_2_2 (v := 126) wl_72_2 ?_
    refine wa_bipush (w_rg2 (by omega) (by omega)) ?_
    refine wb_aald5 126 9 rfl rfl (wy_pr rfl) wt_126 (by rw [show _ = _ from ((cl_126 hC))]; omega) wl_126_9 ?_
    refine wa_iload_n (n := 1) rfl ?_
    refine wa_fall ⟨_, rfl⟩ ?_
    refine wb_iald 136 rfl (wy_pr rfl) wt_136 (n := (S 127 (-1))) (hth2) (by omega) (by omega) (v := ar) (har) (fun r19 => ?_)
    refine wa_iload (n := 8) rfl ?_
    refine wa_cv 72 rfl (wy_pr rfl) wt_72 (M2 := mS [138, 139, 141, 142]) rfl at_XH_addCall ⟨_, rfl⟩ rfl rfl ⟨trivial, trivial, trivial, (Or.inr ⟨wy_pr rfl, mS_no rfl⟩), trivial, trivial, trivial, trivial, trivial, trivial⟩ trivial (fun _ _ q => mS_sub (by decide) q) (ac_ok (S := S) (ar := ar) (vn := vs) hC hI h2 hcs hl hz hcl hm hm1 hm2 hu0 ⟨by omega, by omega⟩ hv0 ⟨by omega, by omega⟩ ⟨by omega, by omega⟩ ⟨by omega, by omega⟩) (fun oq20 Sq20 hp21 q20 => ?_)
    rcases q20 with ⟨rfl, ac20⟩
    show wJ _ _ _ _ _ _ _ _ _ _
    have ac20x := ac20.2.2.2.2.2.1
    have ac20y := ac20.2.2.2.2.2.2.1
    refine wa_istore (n := 10) rfl ?_
    refine wa_aload_n (n := 0) rfl ?_
    refine wb_gf4 215 rfl (wy_pr rfl) wt_215 wf_8_0 (v := 72) wl_215_0 ?_
    refine wb_gf4 72 rfl (wy_pr rfl) wt_72 wf_2_4 (v := 137) wl_72_4 ?_
    refine wa_iconst ?_
    refine wb_aald5 137 0 rfl rfl (wy_pr rfl) wt_137 (by rw [show _ = _ from (((ac20.2.2.2.2.2.2.2.1 137 (-1) (by decide) (by decide) (by decide) (by decide) (by decide) (by decide) (Or.inl (by decide)) (Or.inl (by decide)) (Or.inl (by decide))).trans ((cl_137 hC))))]; omega) wl_137_0 ?_
    refine wa_iload (n := 10) rfl ?_
    refine wb_iald 138 rfl (wy_pr rfl) wt_138 (n := (Sq20 138 (-1))) (rfl) (by omega) (by omega) (v := cs) ((by rw [← hm]; exact ac20.2.1.1.trans h2)) (fun r22 => ?_)
    refine wa_istore (n := 11) rfl ?_
    refine wa_iconst ?_
    refine wa_istore (n := 12) rfl ?_
    refine wa_fall ⟨_, rfl⟩ ?_
    have zl2 : Sq20 217 (-1) = S 217 (-1) := (((ac20.2.2.2.2.2.2.2.1 217 (-1) (by decide) (by decide) (by decide) (by decide) (by decide) (by decide) (Or.inl (by decide)) (Or.inl (by decide)) (Or.inl (by decide))).trans (rfl)))
    have zl3 : Sq20 218 (-1) = Sq20 217 (-1) := ((((ac20.2.2.2.2.2.2.2.1 218 (-1) (by decide) (by decide) (by decide) (by decide) (by decide) (by decide) (Or.inl (by decide)) (Or.inl (by decide)) (Or.inl (by decide))).trans (bl1))) : Sq20 218 (-1) = S 217 (-1)).trans zl2.symm
    rw [h2] at ac20x
    refine wJ_S (el_215 (S := Sq20) (fn := fn) (pl := pl) (kd := kd) (bt := bt) (nw := nw) (f := f) (vs := vs) (es := ((h - pl) - 1)) (n := n) (st := cs) ⟨by omega, by omega⟩ ac20x.1 (by omega) (by omega) ⟨by omega, by omega⟩ ⟨by omega, by omega⟩ zl3 (by omega) (vs + 1).toNat 0 Sq20 (by omega) (by omega) (by omega) ev_0 (fun Zb hev => ?_)) ⟨rfl, rfl, rfl, rfl, rfl, rfl, rfl, rfl, rfl, rfl, rfl, rfl, trivial⟩
    refine wa_aload_n (n := 0) rfl ?_
    refine wb_gf4 215 rfl (wy_pr rfl) wt_215 wf_8_3 (v := 216) wl_215_3 ?_
    refine wa_iload_n (n := 2) rfl ?_
    refine wb_pfi 216 rfl (wy_pr rfl) wt_216 wf_7_2 (n := 2) rfl ⟨(by omega), (by omega)⟩ ?_
    refine wa_aload_n (n := 0) rfl ?_
    refine wb_gf4 215 rfl (wy_pr rfl) wt_215 wf_8_6 (v := 220) wl_215_6 ?_
    refine wa_aload_n (n := 0) rfl ?_
    refine wb_gfi 215 rfl (wy_pr rfl) wt_215 wf_8_4 (v := c) ((w_up_slot (by decide)).trans (((hev.2 215 4 (by omega)).trans (((ac20.2.2.2.2.2.2.2.1 215 4 (by decide) (by decide) (by decide) (by decide) (by decide) (by decide) (Or.inl (by decide)) (Or.inl (by decide)) (Or.inl (by decide))).trans (bc)))))) (fun r23 => ?_)
    refine wa_iconst ?_
    refine wa_isub ?_
    refine wa_dup2 (by decide) (by decide) ?_
    refine wb_iald 220 rfl (wy_pr rfl) wt_220 (n := 200) ((w_up_slot (by decide)).trans (((hev.2 220 (-1) (by omega)).trans (((ac20.2.2.2.2.2.2.2.1 220 (-1) (by decide) (by decide) (by decide) (by decide) (by decide) (by decide) (Or.inl (by decide)) (Or.inl (by decide)) (Or.inl (by decide))).trans ((cl_220 hC))))))) (by omega) (by omega) (v := p) ((w_up_slot (by decide)).trans (((hev.2 220 (c - 1) (by omega)).trans (((ac20.2.2.2.2.2.2.2.1 220 (c - 1) (by decide) (by decide) (by decide) (by decide) (by decide) (by decide) (Or.inl (by decide)) (Or.inl (by decide)) (Or.inl (by decide))).trans (bp)))))) (fun r24 => ?_)
    refine wa_iconst ?_
    refine wa_iadd ?_
    refine wb_iast 220 rfl (wy_pr rfl) wt_220 (n := 200) ((w_up_slot (by decide)).trans (((hev.2 220 (-1) (by omega)).trans (((ac20.2.2.2.2.2.2.2.1 220 (-1) (by decide) (by decide) (by decide) (by decide) (by decide) (by decide) (Or.inl (by decide)) (Or.inl (by decide)) (Or.inl (by decide))).trans ((cl_220 hC))))))) (by omega) (by omega) ⟨(by omega), (by omega)⟩ ?_
    refine wa_aload_n (n := 0) rfl ?_
    refine wa_iload (n := 7) rfl ?_
    refine wa_iload (n := 10) rfl ?_
    refine wa_iload_n (n := 3) rfl ?_
    refine wa_lload (n := 4) rfl ?_
    refine wa_iload (n := 6) rfl ?_
    refine wa_cv 215 rfl (wy_pr rfl) wt_215 (M2 := mS [138, 139, 141, 142]) rfl at_XK_push ⟨_, rfl⟩ rfl rfl ⟨(Or.inr ⟨wy_pr rfl, mS_no rfl⟩), trivial, trivial, trivial, trivial, trivial, trivial, trivial, trivial, trivial, trivial, trivial, trivial⟩ trivial (fun _ _ q => q) ?_ (fun _ _ _ q => q)
    refine wa_aload_n (n := 0) rfl ?_
    refine wb_gf4 215 rfl (wy_pr rfl) wt_215 wf_8_5 (v := 219) wl_215_5 ?_
    refine wa_aload_n (n := 0) rfl ?_
    refine wb_gfi 215 rfl (wy_pr rfl) wt_215 wf_8_4 (v := c) ((w_up_slot (by decide)).trans ((w_up_slot (by decide)).trans (((hev.2 215 4 (by omega)).trans (((ac20.2.2.2.2.2.2.2.1 215 4 (by decide) (by decide) (by decide) (by decide) (by decide) (by decide) (Or.inl (by decide)) (Or.inl (by decide)) (Or.inl (by decide))).trans (bc))))))) (fun r25 => ?_)
    refine wa_iload_n (n := 1) rfl ?_
    refine wb_iast 219 rfl (wy_pr rfl) wt_219 (n := 200) ((w_up_slot (by decide)).trans ((w_up_slot (by decide)).trans (((hev.2 219 (-1) (by omega)).trans (((ac20.2.2.2.2.2.2.2.1 219 (-1) (by decide) (by decide) (by decide) (by decide) (by decide) (by decide) (Or.inl (by decide)) (Or.inl (by decide)) (Or.inl (by decide))).trans ((cl_219 hC)))))))) (by omega) (by omega) ⟨(by omega), (by omega)⟩ ?_
    refine wa_aload_n (n := 0) rfl ?_
    refine wb_gf4 215 rfl (wy_pr rfl) wt_215 wf_8_6 (v := 220) wl_215_6 ?_
    refine wa_aload_n (n := 0) rfl ?_
    refine wb_gfi 215 rfl (wy_pr rfl) wt_215 wf_8_4 (v := c) ((w_up_slot (by decide)).trans ((w_up_slot (by decide)).trans ((w_up_slot (by decide)).trans (((hev.2 215 4 (by omega)).trans (((ac20.2.2.2.2.2.2.2.1 215 4 (by decide) (by decide) (by decide) (by decide) (by decide) (by decide) (Or.inl (by decide)) (Or.inl (by decide)) (Or.inl (by decide))).trans (bc)))))))) (fun r26 => ?_)
    refine wa_iconst ?_
    refine wb_iast 220 rfl (wy_pr rfl) wt_220 (n := 200) ((w_up_slot (by decide)).trans ((w_up_at (by omega)).trans ((w_up_slot (by decide)).trans (((hev.2 220 (-1) (by omega)).trans (((ac20.2.2.2.2.2.2.2.1 220 (-1) (by decide) (by decide) (by decide) (by decide) (by decide) (by decide) (Or.inl (by decide)) (Or.inl (by decide)) (Or.inl (by decide))).trans ((cl_220 hC))))))))) (by omega) (by omega) ⟨(by omega), (by omega)⟩ ?_
    refine wa_aload_n (n := 0) rfl ?_
    refine wb_gf4 215 rfl (wy_pr rfl) wt_215 wf_8_7 (v := 221) wl_215_7 ?_
    refine wa_aload_n (n := 0) rfl ?_
    refine wb_gfi 215 rfl (wy_pr rfl) wt_215 wf_8_4 (v := c) ((w_up_slot (by decide)).trans ((w_up_slot (by decide)).trans ((w_up_slot (by decide)).trans ((w_up_slot (by decide)).trans (((hev.2 215 4 (by omega)).trans (((ac20.2.2.2.2.2.2.2.1 215 4 (by decide) (by decide) (by decide) (by decide) (by decide) (by decide) (Or.inl (by decide)) (Or.inl (by decide)) (Or.inl (by decide))).trans (bc))))))))) (fun r27 => ?_)
    refine wa_iload_n (n := 2) rfl ?_
    refine wb_iast 221 rfl (wy_pr rfl) wt_221 (n := 200) ((w_up_slot (by decide)).trans ((w_up_slot (by decide)).trans ((w_up_slot (by decide)).trans ((w_up_slot (by decide)).trans (((hev.2 221 (-1) (by omega)).trans (((ac20.2.2.2.2.2.2.2.1 221 (-1) (by decide) (by decide) (by decide) (by decide) (by decide) (by decide) (Or.inl (by decide)) (Or.inl (by decide)) (Or.inl (by decide))).trans ((cl_221 hC)))))))))) (by omega) (by omega) ⟨(by omega), (by omega)⟩ ?_
    refine wa_aload_n (n := 0) rfl ?_
    refine wb_gf4 215 rfl (wy_pr rfl) wt_215 wf_8_8 (v := 222) wl_215_8 ?_
    refine wa_aload_n (n := 0) rfl ?_
    refine wb_gfi 215 rfl (wy_pr rfl) wt_215 wf_8_4 (v := c) ((w_up_slot (by decide)).trans ((w_up_slot (by decide)).trans ((w_up_slot (by decide)).trans ((w_up_slot (by decide)).trans ((w_up_slot (by decide)).trans (((hev.2 215 4 (by omega)).trans (((ac20.2.2.2.2.2.2.2.1 215 4 (by decide) (by decide) (by decide) (by decide) (by decide) (by decide) (Or.inl (by decide)) (Or.inl (by decide)) (Or.inl (by decide))).trans (bc)))))))))) (fun r28 => ?_)
    refine wa_iload_n (n := 3) rfl ?_
    refine wb_i2b_r (wb_i2b_id ⟨(by omega), (by omega)⟩) ?_
    refine wb_bast 222 rfl (wy_pr rfl) wt_222 (n := 200) ((w_up_slot (by decide)).trans ((w_up_slot (by decide)).trans ((w_up_slot (by decide)).trans ((w_up_slot (by decide)).trans ((w_up_slot (by decide)).trans (((hev.2 222 (-1) (by omega)).trans (((ac20.2.2.2.2.2.2.2.1 222 (-1) (by decide) (by decide) (by decide) (by decide) (by decide) (by decide) (Or.inl (by decide)) (Or.inl (by decide)) (Or.inl (by decide))).trans ((cl_222 hC))))))))))) (by omega) (by omega) ⟨(by omega), (by omega)⟩ ?_
    refine wa_aload_n (n := 0) rfl ?_
    refine wb_gf4 215 rfl (wy_pr rfl) wt_215 wf_8_9 (v := 223) wl_215_9 ?_
    refine wa_aload_n (n := 0) rfl ?_
    refine wb_gfi 215 rfl (wy_pr rfl) wt_215 wf_8_4 (v := c) ((w_up_slot (by decide)).trans ((w_up_slot (by decide)).trans ((w_up_slot (by decide)).trans ((w_up_slot (by decide)).trans ((w_up_slot (by decide)).trans ((w_up_slot (by decide)).trans (((hev.2 215 4 (by omega)).trans (((ac20.2.2.2.2.2.2.2.1 215 4 (by decide) (by decide) (by decide) (by decide) (by decide) (by decide) (Or.inl (by decide)) (Or.inl (by decide)) (Or.inl (by decide))).trans (bc))))))))))) (fun r29 => ?_)
    refine wa_lload (n := 4) rfl ?_
    refine wb_last 223 rfl (wy_pr rfl) wt_223 (n := 200) ((w_up_slot (by decide)).trans ((w_up_slot (by decide)).trans ((w_up_slot (by decide)).trans ((w_up_slot (by decide)).trans ((w_up_slot (by decide)).trans ((w_up_slot (by decide)).trans (((hev.2 223 (-1) (by omega)).trans (((ac20.2.2.2.2.2.2.2.1 223 (-1) (by decide) (by decide) (by decide) (by decide) (by decide) (by decide) (Or.inl (by decide)) (Or.inl (by decide)) (Or.inl (by decide))).trans ((cl_223 hC)))))))))))) (by omega) (by omega) ⟨(by omega), (by omega)⟩ ?_
    refine wa_aload_n (n := 0) rfl ?_
    refine wb_gf4 215 rfl (wy_pr rfl) wt_215 wf_8_10 (v := 224) wl_215_10 ?_
    refine wa_aload_n (n := 0) rfl ?_
    refine wb_gfi 215 rfl (wy_pr rfl) wt_215 wf_8_4 (v := c) ((w_up_slot (by decide)).trans ((w_up_slot (by decide)).trans ((w_up_slot (by decide)).trans ((w_up_slot (by decide)).trans ((w_up_slot (by decide)).trans ((w_up_slot (by decide)).trans ((w_up_slot (by decide)).trans (((hev.2 215 4 (by omega)).trans (((ac20.2.2.2.2.2.2.2.1 215 4 (by decide) (by decide) (by decide) (by decide) (by decide) (by decide) (Or.inl (by decide)) (Or.inl (by decide)) (Or.inl (by decide))).trans (bc)))))))))))) (fun r30 => ?_)
    refine wa_iload (n := 6) rfl ?_
    refine wb_zast 224 rfl (wy_pr rfl) wt_224 (n := 200) ((w_up_slot (by decide)).trans ((w_up_slot (by decide)).trans ((w_up_slot (by decide)).trans ((w_up_slot (by decide)).trans ((w_up_slot (by decide)).trans ((w_up_slot (by decide)).trans ((w_up_slot (by decide)).trans (((hev.2 224 (-1) (by omega)).trans (((ac20.2.2.2.2.2.2.2.1 224 (-1) (by decide) (by decide) (by decide) (by decide) (by decide) (by decide) (Or.inl (by decide)) (Or.inl (by decide)) (Or.inl (by decide))).trans ((cl_224 hC))))))))))))) (by omega) (by omega) ⟨(by omega), (by omega)⟩ ?_
    refine wa_aload_n (n := 0) rfl ?_
    refine wa_dup (by decide) ?_
    refine wb_gfi 215 rfl (wy_pr rfl) wt_215 wf_8_4 (v := c) ((w_up_slot (by decide)).trans ((w_up_slot (by decide)).trans ((w_up_slot (by decide)).trans ((w_up_slot (by decide)).trans ((w_up_slot (by decide)).trans ((w_up_slot (by decide)).trans ((w_up_slot (by decide)).trans ((w_up_slot (by decide)).trans (((hev.2 215 4 (by omega)).trans (((ac20.2.2.2.2.2.2.2.1 215 4 (by decide) (by decide) (by decide) (by decide) (by decide) (by decide) (Or.inl (by decide)) (Or.inl (by decide)) (Or.inl (by decide))).trans (bc))))))))))))) (fun r31 => ?_)
    refine wa_iconst ?_
    refine wa_iadd ?_
    refine wb_pfi 215 rfl (wy_pr rfl) wt_215 wf_8_4 (n := 4) rfl ⟨(by omega), (by omega)⟩ ?_
    refine wa_return rfl ?_
    show wJ _ _ _ _ _ _ _ _ _ _
    refine wa_return rfl ?_
    refine ⟨rfl, ?_⟩
    first | rw [if_pos (by omega)] | rw [if_neg (by omega)]
    exact ⟨_, Zb, ac20, hev, rfl⟩
theorem el_226 {fn pl kd bt nw f vs es n st : Int} (hst : 0 ≤ st ∧ st + vs ≤ S 141 (-1)) (hl : S 142 (-1) = S 141 (-1)) (hvs : vs ≤ 1000) (hes : pl + 1 + es ≤ S 228 (-1)) (her : -10000 ≤ es ∧ es ≤ 10000) (hpl : 0 ≤ pl ∧ pl ≤ 4095) (hl3 : S 229 (-1) = S 228 (-1)) (hlz : S 141 (-1) ≤ 8388608) : ∀ (g : Nat) (i : Int) (Z : wS), vs - i < g → 0 ≤ i → i ≤ vs → ev_ag 226 st i es pl S Z → (∀ Z : wS, ev_ag 226 st vs es pl S Z → wJ (pe_GA xs) wY0 M (d + 2) t_XK_enter ((pe_at t_XK_enter.bl 5).getD (0, [])).2 [(0, (2, 226)), (1, (0, fn)), (2, (0, pl)), (3, (0, kd)), (4, (1, bt)), (6, (0, nw)), (7, (0, f)), (8, (0, vs)), (9, (0, es)), (10, (0, n)), (11, (0, st)), (12, (0, vs))] [] Z Q) → wJ (pe_GA xs) wY0 M (d + 2) t_XK_enter ((pe_at t_XK_enter.bl 2).getD (0, [])).2 [(0, (2, 226)), (1, (0, fn)), (2, (0, pl)), (3, (0, kd)), (4, (1, bt)), (6, (0, nw)), (7, (0, f)), (8, (0, vs)), (9, (0, es)), (10, (0, n)), (11, (0, st)), (12, (0, i))] [] Z Q := by
  intro g
  induction g with
  | zero => intro i Z h1 h2 h3; omega
  | succ g ih =>
    intro i Z h1 h2 h3 hv hk
    have q41 : Z 141 (-1) = S 141 (-1) := hv.2 141 (-1) (by omega)
    have q42 : Z 142 (-1) = S 141 (-1) := (hv.2 142 (-1) (by omega)).trans hl
    have r2 : Z 228 (-1) = S 228 (-1) := hv.2 228 (-1) (by omega)
    have r3 : Z 229 (-1) = S 228 (-1) := (hv.2 229 (-1) (by omega)).trans hl3
    have e2 : ∀ x : Int, Z 228 x = S 228 x := fun x => hv.2 228 x (by omega)
    have e3 : ∀ x : Int, Z 229 x = S 229 x := fun x => hv.2 229 x (by omega)
    refine wa_iload (n := 12) rfl ?_
    refine wa_iload (n := 8) rfl ?_
    refine wa_icmpge (w_rg0 (by omega) (by omega)) (w_rg0 (by omega) (by omega)) ⟨_, rfl⟩ (fun c301 => ?_) (fun c301 => ?_)
    · skip
      have hiv : i = vs := by omega
      subst hiv
      exact wJ_S (hk Z hv) ⟨rfl, rfl, rfl, rfl, rfl, rfl, rfl, rfl, rfl, rfl, rfl, rfl, trivial⟩
    · skip
      refine wa_iload (n := 12) rfl ?_
      refine wa_iload (n := 9) rfl ?_
      refine wa_icmpge (w_rg0 (by omega) (by omega)) (w_rg0 (by omega) (by omega)) ⟨_, rfl⟩ (fun c302 => ?_) (fun c302 => ?_)
      · skip
        refine wa_aload_n (n := 0) rfl ?_
        refine wb_gf4 226 rfl (wy_pr rfl) wt_226 wf_8_0 (v := 72) wl_226_0 ?_
        refine wb_gf4 72 rfl (wy_pr rfl) wt_72 wf_2_6 (v := 140) wl_72_6 ?_
        refine wa_iload (n := 11) rfl ?_
        refine wa_iload (n := 12) rfl ?_
        refine wa_iadd ?_
        refine wa_iconst ?_
        refine wb_lconst (m := 0) rfl ?_
        refine wa_cv 140 rfl (wy_pr rfl) wt_140 (M2 := fun _ => False) rfl at_XV_put ⟨_, rfl⟩ rfl rfl ⟨(Or.inr ⟨wy_pr rfl, fun q => q⟩), trivial, trivial, trivial, trivial, trivial, trivial, trivial, trivial, trivial, trivial, trivial, trivial⟩ trivial (fun _ _ q => False.elim q) ?_ (fun _ _ _ q => q)
        refine wa_aload_n (n := 0) rfl ?_
        refine wb_gf4 140 rfl (wy_pr rfl) wt_140 wf_7_0 (v := 141) wl_140_0 ?_
        refine wa_iload_n (n := 1) rfl ?_
        refine wa_iload_n (n := 2) rfl ?_
        refine wb_i2b_r (wb_i2b_id ⟨(by omega), (by omega)⟩) ?_
        refine wb_bast 141 rfl (wy_pr rfl) wt_141 (n := (S 141 (-1))) (q41) (by omega) (by omega) ⟨(by omega), (by omega)⟩ ?_
        refine wa_aload_n (n := 0) rfl ?_
        refine wb_gf4 140 rfl (wy_pr rfl) wt_140 wf_7_1 (v := 142) wl_140_1 ?_
        refine wa_iload_n (n := 1) rfl ?_
        refine wa_lload_n (n := 3) rfl ?_
        refine wb_last 142 rfl (wy_pr rfl) wt_142 (n := (S 141 (-1))) ((w_up_slot (by decide)).trans (q42)) (by omega) (by omega) ⟨(by omega), (by omega)⟩ ?_
        refine wa_return rfl ?_
        show wJ _ _ _ _ _ _ _ _ _ _
        refine wa_fall ⟨_, rfl⟩ ?_
        refine wa_iinc rfl rfl ?_
        refine wa_goto ⟨_, rfl⟩ ?_
        exact wJ_S (ih (i + 1) _ (by omega) (by omega) (by omega) (ev_s hv h2 (if_neg (by omega)).symm (if_neg (by omega)).symm) hk) ⟨rfl, rfl, rfl, rfl, rfl, rfl, rfl, rfl, rfl, rfl, rfl, rfl, trivial⟩
      · skip
        refine wa_aload_n (n := 0) rfl ?_
        refine wb_gf4 226 rfl (wy_pr rfl) wt_226 wf_8_0 (v := 72) wl_226_0 ?_
        refine wb_gf4 72 rfl (wy_pr rfl) wt_72 wf_2_6 (v := 140) wl_72_6 ?_
        refine wa_iload (n := 11) rfl ?_
        refine wa_iload (n := 12) rfl ?_
        refine wa_iadd ?_
        refine wa_aload_n (n := 0) rfl ?_
        refine wb_gf4 226 rfl (wy_pr rfl) wt_226 wf_8_3 (v := 227) wl_226_3 ?_
        refine wb_gf4 227 rfl (wy_pr rfl) wt_227 wf_7_0 (v := 228) wl_227_0 ?_
        refine wa_iload_n (n := 2) rfl ?_
        refine wa_iconst ?_
        refine wa_iadd ?_
        refine wa_iload (n := 12) rfl ?_
        refine wa_iadd ?_
        refine wb_bald 228 rfl (wy_pr rfl) wt_228 (n := (S 228 (-1))) (r2) (by omega) (by omega) (v := (S 228 ((pl + 1) + i))) ((e2 ((pl + 1) + i))) (fun r303 => ?_)
        refine wa_aload_n (n := 0) rfl ?_
        refine wb_gf4 226 rfl (wy_pr rfl) wt_226 wf_8_3 (v := 227) wl_226_3 ?_
        refine wb_gf4 227 rfl (wy_pr rfl) wt_227 wf_7_1 (v := 229) wl_227_1 ?_
        refine wa_iload_n (n := 2) rfl ?_
        refine wa_iconst ?_
        refine wa_iadd ?_
        refine wa_iload (n := 12) rfl ?_
        refine wa_iadd ?_
        refine wb_lald 229 rfl (wy_pr rfl) wt_229 (n := (S 228 (-1))) (r3) (by omega) (by omega) (v := (S 229 ((pl + 1) + i))) ((e3 ((pl + 1) + i))) (fun r304 => ?_)
        refine wa_cv 140 rfl (wy_pr rfl) wt_140 (M2 := fun _ => False) rfl at_XV_put ⟨_, rfl⟩ rfl rfl ⟨(Or.inr ⟨wy_pr rfl, fun q => q⟩), trivial, trivial, trivial, trivial, trivial, trivial, trivial, trivial, trivial, trivial, trivial, trivial⟩ trivial (fun _ _ q => False.elim q) ?_ (fun _ _ _ q => q)
        refine wa_aload_n (n := 0) rfl ?_
        refine wb_gf4 140 rfl (wy_pr rfl) wt_140 wf_7_0 (v := 141) wl_140_0 ?_
        refine wa_iload_n (n := 1) rfl ?_
        refine wa_iload_n (n := 2) rfl ?_
        refine wb_i2b_r (wb_i2b_id ⟨(by omega), (by omega)⟩) ?_
        refine wb_bast 141 rfl (wy_pr rfl) wt_141 (n := (S 141 (-1))) (q41) (by omega) (by omega) ⟨(by omega), (by omega)⟩ ?_
        refine wa_aload_n (n := 0) rfl ?_
        refine wb_gf4 140 rfl (wy_pr rfl) wt_140 wf_7_1 (v := 142) wl_140_1 ?_
        refine wa_iload_n (n := 1) rfl ?_
        refine wa_lload_n (n := 3) rfl ?_
        refine wb_last 142 rfl (wy_pr rfl) wt_142 (n := (S 141 (-1))) ((w_up_slot (by decide)).trans (q42)) (by omega) (by omega) ⟨(by omega), (by omega)⟩ ?_
        refine wa_return rfl ?_
        show wJ _ _ _ _ _ _ _ _ _ _
        refine wa_goto ⟨_, rfl⟩ ?_
        refine wa_iinc rfl rfl ?_
        refine wa_goto ⟨_, rfl⟩ ?_
        exact wJ_S (ih (i + 1) _ (by omega) (by omega) (by omega) (ev_s hv h2 (if_pos (by omega)).symm (if_pos (by omega)).symm) hk) ⟨rfl, rfl, rfl, rfl, rfl, rfl, rfl, rfl, rfl, rfl, rfl, rfl, trivial⟩
/-- a fun is called -/
def enQ_226 (ar vs es pl c p f n kd bt nw cs : Int) (S Z : wS) : Prop := ∃ A B : wS, ac_ag ar vs S A ∧ ev_ag 226 cs vs es pl A B ∧ w_up (w_up (w_up (w_up (w_up (w_up (w_up (w_up (w_up B 227 2 pl) 231 (c - 1) (p + 1)) 230 c f) 231 c 0) 232 c n) 233 c kd) 234 c bt) 235 c nw) 226 4 (c + 1) = Z
set_option maxHeartbeats 4000000 in
theorem en_226 {fn pl kd bt nw f ar vs pn c p h cs n u0 v0 : Int} (hC : w_CL S) (hI : gI S) (h2 : S 140 2 = cs) (hcs : 0 ≤ cs ∧ cs ≤ S 141 (-1)) (hl : S 142 (-1) = S 141 (-1)) (hz : 16 ≤ S 141 (-1) ∧ S 141 (-1) ≤ 480400) (hcl : S 139 (-1) = S 138 (-1)) (hm : S 72 5 = n) (hm1 : 0 ≤ n ∧ n ≤ S 138 (-1)) (hm2 : 64 ≤ S 138 (-1) ∧ S 138 (-1) ≤ 16383) (hu0 : S 150 0 = u0) (hu1 : 0 ≤ u0 ∧ u0 ≤ 8000) (hv0 : S 150 1 = v0) (hv1 : 0 ≤ v0 ∧ v0 ≤ 60000) (hth : S 129 (-1) = S 127 (-1) ∧ S 136 (-1) = S 127 (-1)) (hn : 0 ≤ fn ∧ fn < S 127 (-1)) (hf : S 129 fn = f) (hf1 : 0 ≤ f ∧ f < 400) (har : S 136 fn = ar) (hvs : S 23 f = vs) (hvs1 : 0 ≤ vs ∧ vs ≤ 1000) (hpn : S 22 f = pn) (hpn1 : 0 ≤ pn ∧ pn ≤ 1000) (bc : S 226 4 = c) (bc0 : 1 ≤ c ∧ c < 200) (bp : S 231 (c - 1) = p) (bp0 : 0 ≤ p ∧ p ≤ 20000) (bh : S 227 2 = h) (bh0 : h ≤ S 228 (-1)) (bl : S 229 (-1) = S 228 (-1) ∧ S 228 (-1) ≤ 4095) (hpl : 0 ≤ pl ∧ pl < h) (hu2 : u0 < 8000) (hv2 : v0 + vs ≤ 60000) (hkd : -128 ≤ kd ∧ kd ≤ 127) (hbt : -9223372036854775808 ≤ bt ∧ bt ≤ 9223372036854775807) (hnw : 0 ≤ nw ∧ nw ≤ 1) : wJ (pe_GA xs) wY0 (mS [138, 139, 141, 142]) (d + 6) t_XK_enter ((pe_at t_XK_enter.bl 0).getD (0, [])).2 [(0, (2, 226)), (1, (0, fn)), (2, (0, pl)), (3, (0, kd)), (4, (1, bt)), (6, (0, nw))] [] S (fun o Z => o = .inl none ∧ enQ_226 ar vs (if h - pl - 1 ≤ pn then h - pl - 1 else pn) pl c p f n kd bt nw cs S Z) := by
  obtain ⟨hth1, hth2⟩ := hth
  obtain ⟨bl1, bl2⟩ := bl
  refine wa_aload_n (n := 0) rfl ?_
  refine wb_gf4 226 rfl (wy_pr rfl) wt_226 wf_8_0 (v := 72) wl_226_0 ?_
  refine wb_gf4 72 rfl (wy_pr rfl) wt_72 wf_2_2 (v := 126) wl_72_2 ?_
  refine wa_iconst ?_
  refine wb_aald5 126 2 rfl rfl (wy_pr rfl) wt_126 (by rw [show _ = _ from ((cl_126 hC))]; omega) wl_126_2 ?_
  refine wa_iload_n (n := 1) rfl ?_
  refine wb_iald 129 rfl (wy_pr rfl) wt_129 (n := (S 127 (-1))) (hth1) (by omega) (by omega) (v := f) (hf) (fun r1 => ?_)
  refine wa_istore (n := 7) rfl ?_
  refine wa_aload_n (n := 0) rfl ?_
  refine wb_gf4 226 rfl (wy_pr rfl) wt_226 wf_8_1 (v := 19) wl_226_1 ?_
  refine wb_gf4 19 rfl (wy_pr rfl) wt_19 wf_0_0 (v := 20) wl_19_0 ?_
  refine wa_iconst ?_
  refine wb_aald5 20 2 rfl rfl (wy_pr rfl) wt_20 (by rw [show _ = _ from ((cl_20 hC))]; omega) wl_20_2 ?_
  refine wa_iload (n := 7) rfl ?_
  refine wb_iald 23 rfl (wy_pr rfl) wt_23 (n := 400) ((cl_23 hC)) (by omega) (by omega) (v := vs) (hvs) (fun r2 => ?_)
  refine wa_istore (n := 8) rfl ?_
  refine wa_aload_n (n := 0) rfl ?_
  refine wb_gf4 226 rfl (wy_pr rfl) wt_226 wf_8_3 (v := 227) wl_226_3 ?_
  refine wb_gfi 227 rfl (wy_pr rfl) wt_227 wf_7_2 (v := h) (bh) (fun r3 => ?_)
  refine wa_iload_n (n := 2) rfl ?_
  refine wa_isub ?_
  refine wa_iconst ?_
  refine wa_isub ?_
  refine wa_aload_n (n := 0) rfl ?_
  refine wb_gf4 226 rfl (wy_pr rfl) wt_226 wf_8_1 (v := 19) wl_226_1 ?_
  refine wb_gf4 19 rfl (wy_pr rfl) wt_19 wf_0_0 (v := 20) wl_19_0 ?_
  refine wa_iconst ?_
  refine wb_aald5 20 1 rfl rfl (wy_pr rfl) wt_20 (by rw [show _ = _ from ((cl_20 hC))]; omega) wl_20_1 ?_
  refine wa_iload (n := 7) rfl ?_
  refine wb_iald 22 rfl (wy_pr rfl) wt_22 (n := 400) ((cl_22 hC)) (by omega) (by omega) (v := pn) (hpn) (fun r4 => ?_)
  refine wa_cs (M2 := mS [138, 139, 141, 142]) rfl at_JM_min ⟨_, rfl⟩ rfl rfl ⟨trivial, trivial, (Or.inr ⟨wy_pr rfl, mS_no rfl⟩), trivial, trivial, trivial, trivial, trivial, trivial⟩ trivial (fun _ _ q => q) ?_ (fun _ _ _ q => q)
  refine wa_iload_n (n := 0) rfl ?_
  refine wa_iload_n (n := 1) rfl ?_
  refine wa_icmpgt (w_rg0 (by omega) (by omega)) (w_rg0 (by omega) (by omega)) ⟨_, rfl⟩ (fun c5 => ?_) (fun c5 => ?_)
  · skip
    refine wa_iload_n (n := 1) rfl ?_
    refine wa_fall ⟨_, rfl⟩ ?_
    refine wa_ireturn rfl ?_
    show wJ _ _ _ _ _ _ _ _ _ _
    refine wa_istore (n := 9) rfl ?_
    refine wa_aload_n (n := 0) rfl ?_
    refine wb_gf4 226 rfl (wy_pr rfl) wt_226 wf_8_0 (v := 72) wl_226_0 ?_
    refine wa_aload_n (n := 0) rfl ?_
    refine wb_gf4 226 rfl (wy_pr rfl) wt_226 wf_8_0 (v := 72) wl_226_0 ?_
    refine wb_gf4 72 rfl (wy_pr rfl) wt_72 wf_2_2 (v := 126) wl_72_2 ?_
    refine wa_bipush (w_rg2 (by omega) (by omega)) ?_
    refine wb_aald5 126 9 rfl rfl (wy_pr rfl) wt_126 (by rw [show _ = _ from ((cl_126 hC))]; omega) wl_126_9 ?_
    refine wa_iload_n (n := 1) rfl ?_
    refine wa_fall ⟨_, rfl⟩ ?_
    refine wb_iald 136 rfl (wy_pr rfl) wt_136 (n := (S 127 (-1))) (hth2) (by omega) (by omega) (v := ar) (har) (fun r6 => ?_)
    refine wa_iload (n := 8) rfl ?_
    refine wa_cv 72 rfl (wy_pr rfl) wt_72 (M2 := mS [138, 139, 141, 142]) rfl at_XH_addCall ⟨_, rfl⟩ rfl rfl ⟨trivial, trivial, trivial, (Or.inr ⟨wy_pr rfl, mS_no rfl⟩), trivial, trivial, trivial, trivial, trivial, trivial⟩ trivial (fun _ _ q => mS_sub (by decide) q) (ac_ok (S := S) (ar := ar) (vn := vs) hC hI h2 hcs hl hz hcl hm hm1 hm2 hu0 ⟨by omega, by omega⟩ hv0 ⟨by omega, by omega⟩ ⟨by omega, by omega⟩ ⟨by omega, by omega⟩) (fun oq7 Sq7 hp8 q7 => ?_)
    rcases q7 with ⟨rfl, ac7⟩
    show wJ _ _ _ _ _ _ _ _ _ _
    have ac7x := ac7.2.2.2.2.2.1
    have ac7y := ac7.2.2.2.2.2.2.1
    refine wa_istore (n := 10) rfl ?_
    refine wa_aload_n (n := 0) rfl ?_
    refine wb_gf4 226 rfl (wy_pr rfl) wt_226 wf_8_0 (v := 72) wl_226_0 ?_
    refine wb_gf4 72 rfl (wy_pr rfl) wt_72 wf_2_4 (v := 137) wl_72_4 ?_
    refine wa_iconst ?_
    refine wb_aald5 137 0 rfl rfl (wy_pr rfl) wt_137 (by rw [show _ = _ from (((ac7.2.2.2.2.2.2.2.1 137 (-1) (by decide) (by decide) (by decide) (by decide) (by decide) (by decide) (Or.inl (by decide)) (Or.inl (by decide)) (Or.inl (by decide))).trans ((cl_137 hC))))]; omega) wl_137_0 ?_
    refine wa_iload (n := 10) rfl ?_
    refine wb_iald 138 rfl (wy_pr rfl) wt_138 (n := (Sq7 138 (-1))) (rfl) (by omega) (by omega) (v := cs) ((by rw [← hm]; exact ac7.2.1.1.trans h2)) (fun r9 => ?_)
    refine wa_istore (n := 11) rfl ?_
    refine wa_iconst ?_
    refine wa_istore (n := 12) rfl ?_
    refine wa_fall ⟨_, rfl⟩ ?_
    have zl2 : Sq7 228 (-1) = S 228 (-1) := (((ac7.2.2.2.2.2.2.2.1 228 (-1) (by decide) (by decide) (by decide) (by decide) (by decide) (by decide) (Or.inl (by decide)) (Or.inl (by decide)) (Or.inl (by decide))).trans (rfl)))
    have zl3 : Sq7 229 (-1) = Sq7 228 (-1) := ((((ac7.2.2.2.2.2.2.2.1 229 (-1) (by decide) (by decide) (by decide) (by decide) (by decide) (by decide) (Or.inl (by decide)) (Or.inl (by decide)) (Or.inl (by decide))).trans (bl1))) : Sq7 229 (-1) = S 228 (-1)).trans zl2.symm
    rw [h2] at ac7x
    refine wJ_S (el_226 (S := Sq7) (fn := fn) (pl := pl) (kd := kd) (bt := bt) (nw := nw) (f := f) (vs := vs) (es := pn) (n := n) (st := cs) ⟨by omega, by omega⟩ ac7x.1 (by omega) (by omega) ⟨by omega, by omega⟩ ⟨by omega, by omega⟩ zl3 (by omega) (vs + 1).toNat 0 Sq7 (by omega) (by omega) (by omega) ev_0 (fun Zb hev => ?_)) ⟨rfl, rfl, rfl, rfl, rfl, rfl, rfl, rfl, rfl, rfl, rfl, rfl, trivial⟩
    refine wa_aload_n (n := 0) rfl ?_
    refine wb_gf4 226 rfl (wy_pr rfl) wt_226 wf_8_3 (v := 227) wl_226_3 ?_
    refine wa_iload_n (n := 2) rfl ?_
    refine wb_pfi 227 rfl (wy_pr rfl) wt_227 wf_7_2 (n := 2) rfl ⟨(by omega), (by omega)⟩ ?_
    refine wa_aload_n (n := 0) rfl ?_
    refine wb_gf4 226 rfl (wy_pr rfl) wt_226 wf_8_6 (v := 231) wl_226_6 ?_
    refine wa_aload_n (n := 0) rfl ?_
    refine wb_gfi 226 rfl (wy_pr rfl) wt_226 wf_8_4 (v := c) ((w_up_slot (by decide)).trans (((hev.2 226 4 (by omega)).trans (((ac7.2.2.2.2.2.2.2.1 226 4 (by decide) (by decide) (by decide) (by decide) (by decide) (by decide) (Or.inl (by decide)) (Or.inl (by decide)) (Or.inl (by decide))).trans (bc)))))) (fun r10 => ?_)
    refine wa_iconst ?_
    refine wa_isub ?_
    refine wa_dup2 (by decide) (by decide) ?_
    refine wb_iald 231 rfl (wy_pr rfl) wt_231 (n := 200) ((w_up_slot (by decide)).trans (((hev.2 231 (-1) (by omega)).trans (((ac7.2.2.2.2.2.2.2.1 231 (-1) (by decide) (by decide) (by decide) (by decide) (by decide) (by decide) (Or.inl (by decide)) (Or.inl (by decide)) (Or.inl (by decide))).trans ((cl_231 hC))))))) (by omega) (by omega) (v := p) ((w_up_slot (by decide)).trans (((hev.2 231 (c - 1) (by omega)).trans (((ac7.2.2.2.2.2.2.2.1 231 (c - 1) (by decide) (by decide) (by decide) (by decide) (by decide) (by decide) (Or.inl (by decide)) (Or.inl (by decide)) (Or.inl (by decide))).trans (bp)))))) (fun r11 => ?_)
    refine wa_iconst ?_
    refine wa_iadd ?_
    refine wb_iast 231 rfl (wy_pr rfl) wt_231 (n := 200) ((w_up_slot (by decide)).trans (((hev.2 231 (-1) (by omega)).trans (((ac7.2.2.2.2.2.2.2.1 231 (-1) (by decide) (by decide) (by decide) (by decide) (by decide) (by decide) (Or.inl (by decide)) (Or.inl (by decide)) (Or.inl (by decide))).trans ((cl_231 hC))))))) (by omega) (by omega) ⟨(by omega), (by omega)⟩ ?_
    refine wa_aload_n (n := 0) rfl ?_
    refine wa_iload (n := 7) rfl ?_
    refine wa_iload (n := 10) rfl ?_
    refine wa_iload_n (n := 3) rfl ?_
    refine wa_lload (n := 4) rfl ?_
    refine wa_iload (n := 6) rfl ?_
    refine wa_cv 226 rfl (wy_pr rfl) wt_226 (M2 := mS [138, 139, 141, 142]) rfl at_XK_push ⟨_, rfl⟩ rfl rfl ⟨(Or.inr ⟨wy_pr rfl, mS_no rfl⟩), trivial, trivial, trivial, trivial, trivial, trivial, trivial, trivial, trivial, trivial, trivial, trivial⟩ trivial (fun _ _ q => q) ?_ (fun _ _ _ q => q)
    refine wa_aload_n (n := 0) rfl ?_
    refine wb_gf4 226 rfl (wy_pr rfl) wt_226 wf_8_5 (v := 230) wl_226_5 ?_
    refine wa_aload_n (n := 0) rfl ?_
    refine wb_gfi 226 rfl (wy_pr rfl) wt_226 wf_8_4 (v := c) ((w_up_slot (by decide)).trans ((w_up_slot (by decide)).trans (((hev.2 226 4 (by omega)).trans (((ac7.2.2.2.2.2.2.2.1 226 4 (by decide) (by decide) (by decide) (by decide) (by decide) (by decide) (Or.inl (by decide)) (Or.inl (by decide)) (Or.inl (by decide))).trans (bc))))))) (fun r12 => ?_)
    refine wa_iload_n (n := 1) rfl ?_
    refine wb_iast 230 rfl (wy_pr rfl) wt_230 (n := 200) ((w_up_slot (by decide)).trans ((w_up_slot (by decide)).trans (((hev.2 230 (-1) (by omega)).trans (((ac7.2.2.2.2.2.2.2.1 230 (-1) (by decide) (by decide) (by decide) (by decide) (by decide) (by decide) (Or.inl (by decide)) (Or.inl (by decide)) (Or.inl (by decide))).trans ((cl_230 hC)))))))) (by omega) (by omega) ⟨(by omega), (by omega)⟩ ?_
    refine wa_aload_n (n := 0) rfl ?_
    refine wb_gf4 226 rfl (wy_pr rfl) wt_226 wf_8_6 (v := 231) wl_226_6 ?_
    refine wa_aload_n (n := 0) rfl ?_
    refine wb_gfi 226 rfl (wy_pr rfl) wt_226 wf_8_4 (v := c) ((w_up_slot (by decide)).trans ((w_up_slot (by decide)).trans ((w_up_slot (by decide)).trans (((hev.2 226 4 (by omega)).trans (((ac7.2.2.2.2.2.2.2.1 226 4 (by decide) (by decide) (by decide) (by decide) (by decide) (by decide) (Or.inl (by decide)) (Or.inl (by decide)) (Or.inl (by decide))).trans (bc)))))))) (fun r13 => ?_)
    refine wa_iconst ?_
    refine wb_iast 231 rfl (wy_pr rfl) wt_231 (n := 200) ((w_up_slot (by decide)).trans ((w_up_at (by omega)).trans ((w_up_slot (by decide)).trans (((hev.2 231 (-1) (by omega)).trans (((ac7.2.2.2.2.2.2.2.1 231 (-1) (by decide) (by decide) (by decide) (by decide) (by decide) (by decide) (Or.inl (by decide)) (Or.inl (by decide)) (Or.inl (by decide))).trans ((cl_231 hC))))))))) (by omega) (by omega) ⟨(by omega), (by omega)⟩ ?_
    refine wa_aload_n (n := 0) rfl ?_
    refine wb_gf4 226 rfl (wy_pr rfl) wt_226 wf_8_7 (v := 232) wl_226_7 ?_
    refine wa_aload_n (n := 0) rfl ?_
    refine wb_gfi 226 rfl (wy_pr rfl) wt_226 wf_8_4 (v := c) ((w_up_slot (by decide)).trans ((w_up_slot (by decide)).trans ((w_up_slot (by decide)).trans ((w_up_slot (by decide)).trans (((hev.2 226 4 (by omega)).trans (((ac7.2.2.2.2.2.2.2.1 226 4 (by decide) (by decide) (by decide) (by decide) (by decide) (by decide) (Or.inl (by decide)) (Or.inl (by decide)) (Or.inl (by decide))).trans (bc))))))))) (fun r14 => ?_)
    refine wa_iload_n (n := 2) rfl ?_
    refine wb_iast 232 rfl (wy_pr rfl) wt_232 (n := 200) ((w_up_slot (by decide)).trans ((w_up_slot (by decide)).trans ((w_up_slot (by decide)).trans ((w_up_slot (by decide)).trans (((hev.2 232 (-1) (by omega)).trans (((ac7.2.2.2.2.2.2.2.1 232 (-1) (by decide) (by decide) (by decide) (by decide) (by decide) (by decide) (Or.inl (by decide)) (Or.inl (by decide)) (Or.inl (by decide))).trans ((cl_232 hC)))))))))) (by omega) (by omega) ⟨(by omega), (by omega)⟩ ?_
    refine wa_aload_n (n := 0) rfl ?_
    refine wb_gf4 226 rfl (wy_pr rfl) wt_226 wf_8_8 (v := 233) wl_226_8 ?_
    refine wa_aload_n (n := 0) rfl ?_
    refine wb_gfi 226 rfl (wy_pr rfl) wt_226 wf_8_4 (v := c) ((w_up_slot (by decide)).trans ((w_up_slot (by decide)).trans ((w_up_slot (by decide)).trans ((w_up_slot (by decide)).trans ((w_up_slot (by decide)).trans (((hev.2 226 4 (by omega)).trans (((ac7.2.2.2.2.2.2.2.1 226 4 (by decide) (by decide) (by decide) (by decide) (by decide) (by decide) (Or.inl (by decide)) (Or.inl (by decide)) (Or.inl (by decide))).trans (bc)))))))))) (fun r15 => ?_)
    refine wa_iload_n (n := 3) rfl ?_
    refine wb_i2b_r (wb_i2b_id ⟨(by omega), (by omega)⟩) ?_
    refine wb_bast 233 rfl (wy_pr rfl) wt_233 (n := 200) ((w_up_slot (by decide)).trans ((w_up_slot (by decide)).trans ((w_up_slot (by decide)).trans ((w_up_slot (by decide)).trans ((w_up_slot (by decide)).trans (((hev.2 233 (-1) (by omega)).trans (((ac7.2.2.2.2.2.2.2.1 233 (-1) (by decide) (by decide) (by decide) (by decide) (by decide) (by decide) (Or.inl (by decide)) (Or.inl (by decide)) (Or.inl (by decide))).trans ((cl_233 hC))))))))))) (by omega) (by omega) ⟨(by omega), (by omega)⟩ ?_
    refine wa_aload_n (n := 0) rfl ?_
    refine wb_gf4 226 rfl (wy_pr rfl) wt_226 wf_8_9 (v := 234) wl_226_9 ?_
    refine wa_aload_n (n := 0) rfl ?_
    refine wb_gfi 226 rfl (wy_pr rfl) wt_226 wf_8_4 (v := c) ((w_up_slot (by decide)).trans ((w_up_slot (by decide)).trans ((w_up_slot (by decide)).trans ((w_up_slot (by decide)).trans ((w_up_slot (by decide)).trans ((w_up_slot (by decide)).trans (((hev.2 226 4 (by omega)).trans (((ac7.2.2.2.2.2.2.2.1 226 4 (by decide) (by decide) (by decide) (by decide) (by decide) (by decide) (Or.inl (by decide)) (Or.inl (by decide)) (Or.inl (by decide))).trans (bc))))))))))) (fun r16 => ?_)
    refine wa_lload (n := 4) rfl ?_
    refine wb_last 234 rfl (wy_pr rfl) wt_234 (n := 200) ((w_up_slot (by decide)).trans ((w_up_slot (by decide)).trans ((w_up_slot (by decide)).trans ((w_up_slot (by decide)).trans ((w_up_slot (by decide)).trans ((w_up_slot (by decide)).trans (((hev.2 234 (-1) (by omega)).trans (((ac7.2.2.2.2.2.2.2.1 234 (-1) (by decide) (by decide) (by decide) (by decide) (by decide) (by decide) (Or.inl (by decide)) (Or.inl (by decide)) (Or.inl (by decide))).trans ((cl_234 hC)))))))))))) (by omega) (by omega) ⟨(by omega), (by omega)⟩ ?_
    refine wa_aload_n (n := 0) rfl ?_
    refine wb_gf4 226 rfl (wy_pr rfl) wt_226 wf_8_10 (v := 235) wl_226_10 ?_
    refine wa_aload_n (n := 0) rfl ?_
    refine wb_gfi 226 rfl (wy_pr rfl) wt_226 wf_8_4 (v := c) ((w_up_slot (by decide)).trans ((w_up_slot (by decide)).trans ((w_up_slot (by decide)).trans ((w_up_slot (by decide)).trans ((w_up_slot (by decide)).trans ((w_up_slot (by decide)).trans ((w_up_slot (by decide)).trans (((hev.2 226 4 (by omega)).trans (((ac7.2.2.2.2.2.2.2.1 226 4 (by decide) (by decide) (by decide) (by decide) (by decide) (by decide) (Or.inl (by decide)) (Or.inl (by decide)) (Or.inl (by decide))).trans (bc)))))))))))) (fun r17 => ?_)
    refine wa_iload (n := 6) rfl ?_
    refine wb_zast 235 rfl (wy_pr rfl) wt_235 (n := 200) ((w_up_slot (by decide)).trans ((w_up_slot (by decide)).trans ((w_up_slot (by decide)).trans ((w_up_slot (by decide)).trans ((w_up_slot (by decide)).trans ((w_up_slot (by decide)).trans ((w_up_slot (by decide)).trans (((hev.2 235 (-1) (by omega)).trans (((ac7.2.2.2.2.2.2.2.1 235 (-1) (by decide) (by decide) (by decide) (by decide) (by decide) (by decide) (Or.inl (by decide)) (Or.inl (by decide)) (Or.inl (by decide))).trans ((cl_235 hC))))))))))))) (by omega) (by omega) ⟨(by omega), (by omega)⟩ ?_
    refine wa_aload_n (n := 0) rfl ?_
    refine wa_dup (by decide) ?_
    refine wb_gfi 226 rfl (wy_pr rfl) wt_226 wf_8_4 (v := c) ((w_up_slot (by decide)).trans ((w_up_slot (by decide)).trans ((w_up_slot (by decide)).trans ((w_up_slot (by decide)).trans ((w_up_slot (by decide)).trans ((w_up_slot (by decide)).trans ((w_up_slot (by decide)).trans ((w_up_slot (by decide)).trans (((hev.2 226 4 (by omega)).trans (((ac7.2.2.2.2.2.2.2.1 226 4 (by decide) (by decide) (by decide) (by decide) (by decide) (by decide) (Or.inl (by decide)) (Or.inl (by decide)) (Or.inl (by decide))).trans (bc))))))))))))) (fun r18 => ?_)
    refine wa_iconst ?_
    refine wa_iadd ?_
    refine wb_pfi 226 rfl (wy_pr rfl) wt_226 wf_8_4 (n := 4) rfl ⟨(by omega), (by omega)⟩ ?_
    refine wa_return rfl ?_
    show wJ _ _ _ _ _ _ _ _ _ _
    refine wa_return rfl ?_
    refine ⟨rfl, ?_⟩
    first | rw [if_pos (by omega)] | rw [if_neg (by omega)]
    exact ⟨_, Zb, ac7, hev, rfl⟩
  · skip
    refine wa_iload_n (n := 0) rfl ?_
    refine wa_goto ⟨_, rfl⟩ ?_
    refine wa_ireturn rfl ?_
    show wJ _ _ _ _ _ _ _ _ _ _
    refine wa_istore (n := 9) rfl ?_
    refine wa_aload_n (n := 0) rfl ?_
    refine wb_gf4 226 rfl (wy_pr rfl) wt_226 wf_8_0 (v := 72) wl_226_0 ?_
    refine wa_aload_n (n := 0) rfl ?_
    refine wb_gf4 226 rfl (wy_pr rfl) wt_226 wf_8_0 (v := 72) wl_226_0 ?_
    refine wb_gf4 72 rfl (wy_pr rfl) wt_72 wf_2_2 (v := 126) wl_72_2 ?_
    refine wa_bipush (w_rg2 (by omega) (by omega)) ?_
    refine wb_aald5 126 9 rfl rfl (wy_pr rfl) wt_126 (by rw [show _ = _ from ((cl_126 hC))]; omega) wl_126_9 ?_
    refine wa_iload_n (n := 1) rfl ?_
    refine wa_fall ⟨_, rfl⟩ ?_
    refine wb_iald 136 rfl (wy_pr rfl) wt_136 (n := (S 127 (-1))) (hth2) (by omega) (by omega) (v := ar) (har) (fun r19 => ?_)
    refine wa_iload (n := 8) rfl ?_
    refine wa_cv 72 rfl (wy_pr rfl) wt_72 (M2 := mS [138, 139, 141, 142]) rfl at_XH_addCall ⟨_, rfl⟩ rfl rfl ⟨trivial, trivial, trivial, (Or.inr ⟨wy_pr rfl, mS_no rfl⟩), trivial, trivial, trivial, trivial, trivial, trivial⟩ trivial (fun _ _ q => mS_sub (by decide) q) (ac_ok (S := S) (ar := ar) (vn := vs) hC hI h2 hcs hl hz hcl hm hm1 hm2 hu0 ⟨by omega, by omega⟩ hv0 ⟨by omega, by omega⟩ ⟨by omega, by omega⟩ ⟨by omega, by omega⟩) (fun oq20 Sq20 hp21 q20 => ?_)
    rcases q20 with ⟨rfl, ac20⟩
    show wJ _ _ _ _ _ _ _ _ _ _
    have ac20x := ac20.2.2.2.2.2.1
    have ac20y := ac20.2.2.2.2.2.2.1
    refine wa_istore (n := 10) rfl ?_
    refine wa_aload_n (n := 0) rfl ?_
    refine wb_gf4 226 rfl (wy_pr rfl) wt_226 wf_8_0 (v := 72) wl_226_0 ?_
    refine wb_gf4 72 rfl (wy_pr rfl) wt_72 wf_2_4 (v := 137) wl_72_4 ?_
    refine wa_iconst ?_
    refine wb_aald5 137 0 rfl rfl (wy_pr rfl) wt_137 (by rw [show _ = _ from (((ac20.2.2.2.2.2.2.2.1 137 (-1) (by decide) (by decide) (by decide) (by decide) (by decide) (by decide) (Or.inl (by decide)) (Or.inl (by decide)) (Or.inl (by decide))).trans ((cl_137 hC))))]; omega) wl_137_0 ?_
    refine wa_iload (n := 10) rfl ?_
    refine wb_iald 138 rfl (wy_pr rfl) wt_138 (n := (Sq20 138 (-1))) (rfl) (by omega) (by omega) (v := cs) ((by rw [← hm]; exact ac20.2.1.1.trans h2)) (fun r22 => ?_)
    refine wa_istore (n := 11) rfl ?_
    refine wa_iconst ?_
    refine wa_istore (n := 12) rfl ?_
    refine wa_fall ⟨_, rfl⟩ ?_
    have zl2 : Sq20 228 (-1) = S 228 (-1) := (((ac20.2.2.2.2.2.2.2.1 228 (-1) (by decide) (by decide) (by decide) (by decide) (by decide) (by decide) (Or.inl (by decide)) (Or.inl (by decide)) (Or.inl (by decide))).trans (rfl)))
    have zl3 : Sq20 229 (-1) = Sq20 228 (-1) := ((((ac20.2.2.2.2.2.2.2.1 229 (-1) (by decide) (by decide) (by decide) (by decide) (by decide) (by decide) (Or.inl (by decide)) (Or.inl (by decide)) (Or.inl (by decide))).trans (bl1))) : Sq20 229 (-1) = S 228 (-1)).trans zl2.symm
    rw [h2] at ac20x
    refine wJ_S (el_226 (S := Sq20) (fn := fn) (pl := pl) (kd := kd) (bt := bt) (nw := nw) (f := f) (vs := vs) (es := ((h - pl) - 1)) (n := n) (st := cs) ⟨by omega, by omega⟩ ac20x.1 (by omega) (by omega) ⟨by omega, by omega⟩ ⟨by omega, by omega⟩ zl3 (by omega) (vs + 1).toNat 0 Sq20 (by omega) (by omega) (by omega) ev_0 (fun Zb hev => ?_)) ⟨rfl, rfl, rfl, rfl, rfl, rfl, rfl, rfl, rfl, rfl, rfl, rfl, trivial⟩
    refine wa_aload_n (n := 0) rfl ?_
    refine wb_gf4 226 rfl (wy_pr rfl) wt_226 wf_8_3 (v := 227) wl_226_3 ?_
    refine wa_iload_n (n := 2) rfl ?_
    refine wb_pfi 227 rfl (wy_pr rfl) wt_227 wf_7_2 (n := 2) rfl ⟨(by omega), (by omega)⟩ ?_
    refine wa_aload_n (n := 0) rfl ?_
    refine wb_gf4 226 rfl (wy_pr rfl) wt_226 wf_8_6 (v := 231) wl_226_6 ?_
    refine wa_aload_n (n := 0) rfl ?_
    refine wb_gfi 226 rfl (wy_pr rfl) wt_226 wf_8_4 (v := c) ((w_up_slot (by decide)).trans (((hev.2 226 4 (by omega)).trans (((ac20.2.2.2.2.2.2.2.1 226 4 (by decide) (by decide) (by decide) (by decide) (by decide) (by decide) (Or.inl (by decide)) (Or.inl (by decide)) (Or.inl (by decide))).trans (bc)))))) (fun r23 => ?_)
    refine wa_iconst ?_
    refine wa_isub ?_
    refine wa_dup2 (by decide) (by decide) ?_
    refine wb_iald 231 rfl (wy_pr rfl) wt_231 (n := 200) ((w_up_slot (by decide)).trans (((hev.2 231 (-1) (by omega)).trans (((ac20.2.2.2.2.2.2.2.1 231 (-1) (by decide) (by decide) (by decide) (by decide) (by decide) (by decide) (Or.inl (by decide)) (Or.inl (by decide)) (Or.inl (by decide))).trans ((cl_231 hC))))))) (by omega) (by omega) (v := p) ((w_up_slot (by decide)).trans (((hev.2 231 (c - 1) (by omega)).trans (((ac20.2.2.2.2.2.2.2.1 231 (c - 1) (by decide) (by decide) (by decide) (by decide) (by decide) (by decide) (Or.inl (by decide)) (Or.inl (by decide)) (Or.inl (by decide))).trans (bp)))))) (fun r24 => ?_)
    refine wa_iconst ?_
    refine wa_iadd ?_
    refine wb_iast 231 rfl (wy_pr rfl) wt_231 (n := 200) ((w_up_slot (by decide)).trans (((hev.2 231 (-1) (by omega)).trans (((ac20.2.2.2.2.2.2.2.1 231 (-1) (by decide) (by decide) (by decide) (by decide) (by decide) (by decide) (Or.inl (by decide)) (Or.inl (by decide)) (Or.inl (by decide))).trans ((cl_231 hC))))))) (by omega) (by omega) ⟨(by omega), (by omega)⟩ ?_
    refine wa_aload_n (n := 0) rfl ?_
    refine wa_iload (n := 7) rfl ?_
    refine wa_iload (n := 10) rfl ?_
    refine wa_iload_n (n := 3) rfl ?_
    refine wa_lload (n := 4) rfl ?_
    refine wa_iload (n := 6) rfl ?_
    refine wa_cv 226 rfl (wy_pr rfl) wt_226 (M2 := mS [138, 139, 141, 142]) rfl at_XK_push ⟨_, rfl⟩ rfl rfl ⟨(Or.inr ⟨wy_pr rfl, mS_no rfl⟩), trivial, trivial, trivial, trivial, trivial, trivial, trivial, trivial, trivial, trivial, trivial, trivial⟩ trivial (fun _ _ q => q) ?_ (fun _ _ _ q => q)
    refine wa_aload_n (n := 0) rfl ?_
    refine wb_gf4 226 rfl (wy_pr rfl) wt_226 wf_8_5 (v := 230) wl_226_5 ?_
    refine wa_aload_n (n := 0) rfl ?_
    refine wb_gfi 226 rfl (wy_pr rfl) wt_226 wf_8_4 (v := c) ((w_up_slot (by decide)).trans ((w_up_slot (by decide)).trans (((hev.2 226 4 (by omega)).trans (((ac20.2.2.2.2.2.2.2.1 226 4 (by decide) (by decide) (by decide) (by decide) (by decide) (by decide) (Or.inl (by decide)) (Or.inl (by decide)) (Or.inl (by decide))).trans (bc))))))) (fun r25 => ?_)
    refine wa_iload_n (n := 1) rfl ?_
    refine wb_iast 230 rfl (wy_pr rfl) wt_230 (n := 200) ((w_up_slot (by decide)).trans ((w_up_slot (by decide)).trans (((hev.2 230 (-1) (by omega)).trans (((ac20.2.2.2.2.2.2.2.1 230 (-1) (by decide) (by decide) (by decide) (by decide) (by decide) (by decide) (Or.inl (by decide)) (Or.inl (by decide)) (Or.inl (by decide))).trans ((cl_230 hC)))))))) (by omega) (by omega) ⟨(by omega), (by omega)⟩ ?_
    refine wa_aload_n (n := 0) rfl ?_
    refine wb_gf4 226 rfl (wy_pr rfl) wt_226 wf_8_6 (v := 231) wl_226_6 ?_
    refine wa_aload_n (n := 0) rfl ?_
    refine wb_gfi 226 rfl (wy_pr rfl) wt_226 wf_8_4 (v := c) ((w_up_slot (by decide)).trans ((w_up_slot (by decide)).trans ((w_up_slot (by decide)).trans (((hev.2 226 4 (by omega)).trans (((ac20.2.2.2.2.2.2.2.1 226 4 (by decide) (by decide) (by decide) (by decide) (by decide) (by decide) (Or.inl (by decide)) (Or.inl (by decide)) (Or.inl (by decide))).trans (bc)))))))) (fun r26 => ?_)
    refine wa_iconst ?_
    refine wb_iast 231 rfl (wy_pr rfl) wt_231 (n := 200) ((w_up_slot (by decide)).trans ((w_up_at (by omega)).trans ((w_up_slot (by decide)).trans (((hev.2 231 (-1) (by omega)).trans (((ac20.2.2.2.2.2.2.2.1 231 (-1) (by decide) (by decide) (by decide) (by decide) (by decide) (by decide) (Or.inl (by decide)) (Or.inl (by decide)) (Or.inl (by decide))).trans ((cl_231 hC))))))))) (by omega) (by omega) ⟨(by omega), (by omega)⟩ ?_
    refine wa_aload_n (n := 0) rfl ?_
    refine wb_gf4 226 rfl (wy_pr rfl) wt_226 wf_8_7 (v := 232) wl_226_7 ?_
    refine wa_aload_n (n := 0) rfl ?_
    refine wb_gfi 226 rfl (wy_pr rfl) wt_226 wf_8_4 (v := c) ((w_up_slot (by decide)).trans ((w_up_slot (by decide)).trans ((w_up_slot (by decide)).trans ((w_up_slot (by decide)).trans (((hev.2 226 4 (by omega)).trans (((ac20.2.2.2.2.2.2.2.1 226 4 (by decide) (by decide) (by decide) (by decide) (by decide) (by decide) (Or.inl (by decide)) (Or.inl (by decide)) (Or.inl (by decide))).trans (bc))))))))) (fun r27 => ?_)
    refine wa_iload_n (n := 2) rfl ?_
    refine wb_iast 232 rfl (wy_pr rfl) wt_232 (n := 200) ((w_up_slot (by decide)).trans ((w_up_slot (by decide)).trans ((w_up_slot (by decide)).trans ((w_up_slot (by decide)).trans (((hev.2 232 (-1) (by omega)).trans (((ac20.2.2.2.2.2.2.2.1 232 (-1) (by decide) (by decide) (by decide) (by decide) (by decide) (by decide) (Or.inl (by decide)) (Or.inl (by decide)) (Or.inl (by decide))).trans ((cl_232 hC)))))))))) (by omega) (by omega) ⟨(by omega), (by omega)⟩ ?_
    refine wa_aload_n (n := 0) rfl ?_
    refine wb_gf4 226 rfl (wy_pr rfl) wt_226 wf_8_8 (v := 233) wl_226_8 ?_
    refine wa_aload_n (n := 0) rfl ?_
    refine wb_gfi 226 rfl (wy_pr rfl) wt_226 wf_8_4 (v := c) ((w_up_slot (by decide)).trans ((w_up_slot (by decide)).trans ((w_up_slot (by decide)).trans ((w_up_slot (by decide)).trans ((w_up_slot (by decide)).trans (((hev.2 226 4 (by omega)).trans (((ac20.2.2.2.2.2.2.2.1 226 4 (by decide) (by decide) (by decide) (by decide) (by decide) (by decide) (Or.inl (by decide)) (Or.inl (by decide)) (Or.inl (by decide))).trans (bc)))))))))) (fun r28 => ?_)
    refine wa_iload_n (n := 3) rfl ?_
    refine wb_i2b_r (wb_i2b_id ⟨(by omega), (by omega)⟩) ?_
    refine wb_bast 233 rfl (wy_pr rfl) wt_233 (n := 200) ((w_up_slot (by decide)).trans ((w_up_slot (by decide)).trans ((w_up_slot (by decide)).trans ((w_up_slot (by decide)).trans ((w_up_slot (by decide)).trans (((hev.2 233 (-1) (by omega)).trans (((ac20.2.2.2.2.2.2.2.1 233 (-1) (by decide) (by decide) (by decide) (by decide) (by decide) (by decide) (Or.inl (by decide)) (Or.inl (by decide)) (Or.inl (by decide))).trans ((cl_233 hC))))))))))) (by omega) (by omega) ⟨(by omega), (by omega)⟩ ?_
    refine wa_aload_n (n := 0) rfl ?_
    refine wb_gf4 226 rfl (wy_pr rfl) wt_226 wf_8_9 (v := 234) wl_226_9 ?_
    refine wa_aload_n (n := 0) rfl ?_
    refine wb_gfi 226 rfl (wy_pr rfl) wt_226 wf_8_4 (v := c) ((w_up_slot (by decide)).trans ((w_up_slot (by decide)).trans ((w_up_slot (by decide)).trans ((w_up_slot (by decide)).trans ((w_up_slot (by decide)).trans ((w_up_slot (by decide)).trans (((hev.2 226 4 (by omega)).trans (((ac20.2.2.2.2.2.2.2.1 226 4 (by decide) (by decide) (by decide) (by decide) (by decide) (by decide) (Or.inl (by decide)) (Or.inl (by decide)) (Or.inl (by decide))).trans (bc))))))))))) (fun r29 => ?_)
    refine wa_lload (n := 4) rfl ?_
    refine wb_last 234 rfl (wy_pr rfl) wt_234 (n := 200) ((w_up_slot (by decide)).trans ((w_up_slot (by decide)).trans ((w_up_slot (by decide)).trans ((w_up_slot (by decide)).trans ((w_up_slot (by decide)).trans ((w_up_slot (by decide)).trans (((hev.2 234 (-1) (by omega)).trans (((ac20.2.2.2.2.2.2.2.1 234 (-1) (by decide) (by decide) (by decide) (by decide) (by decide) (by decide) (Or.inl (by decide)) (Or.inl (by decide)) (Or.inl (by decide))).trans ((cl_234 hC)))))))))))) (by omega) (by omega) ⟨(by omega), (by omega)⟩ ?_
    refine wa_aload_n (n := 0) rfl ?_
    refine wb_gf4 226 rfl (wy_pr rfl) wt_226 wf_8_10 (v := 235) wl_226_10 ?_
    refine wa_aload_n (n := 0) rfl ?_
    refine wb_gfi 226 rfl (wy_pr rfl) wt_226 wf_8_4 (v := c) ((w_up_slot (by decide)).trans ((w_up_slot (by decide)).trans ((w_up_slot (by decide)).trans ((w_up_slot (by decide)).trans ((w_up_slot (by decide)).trans ((w_up_slot (by decide)).trans ((w_up_slot (by decide)).trans (((hev.2 226 4 (by omega)).trans (((ac20.2.2.2.2.2.2.2.1 226 4 (by decide) (by decide) (by decide) (by decide) (by decide) (by decide) (Or.inl (by decide)) (Or.inl (by decide)) (Or.inl (by decide))).trans (bc)))))))))))) (fun r30 => ?_)
    refine wa_iload (n := 6) rfl ?_
    refine wb_zast 235 rfl (wy_pr rfl) wt_235 (n := 200) ((w_up_slot (by decide)).trans ((w_up_slot (by decide)).trans ((w_up_slot (by decide)).trans ((w_up_slot (by decide)).trans ((w_up_slot (by decide)).trans ((w_up_slot (by decide)).trans ((w_up_slot (by decide)).trans (((hev.2 235 (-1) (by omega)).trans (((ac20.2.2.2.2.2.2.2.1 235 (-1) (by decide) (by decide) (by decide) (by decide) (by decide) (by decide) (Or.inl (by decide)) (Or.inl (by decide)) (Or.inl (by decide))).trans ((cl_235 hC))))))))))))) (by omega) (by omega) ⟨(by omega), (by omega)⟩ ?_
    refine wa_aload_n (n := 0) rfl ?_
    refine wa_dup (by decide) ?_
    refine wb_gfi 226 rfl (wy_pr rfl) wt_226 wf_8_4 (v := c) ((w_up_slot (by decide)).trans ((w_up_slot (by decide)).trans ((w_up_slot (by decide)).trans ((w_up_slot (by decide)).trans ((w_up_slot (by decide)).trans ((w_up_slot (by decide)).trans ((w_up_slot (by decide)).trans ((w_up_slot (by decide)).trans (((hev.2 226 4 (by omega)).trans (((ac20.2.2.2.2.2.2.2.1 226 4 (by decide) (by decide) (by decide) (by decide) (by decide) (by decide) (Or.inl (by decide)) (Or.inl (by decide)) (Or.inl (by decide))).trans (bc))))))))))))) (fun r31 => ?_)
    refine wa_iconst ?_
    refine wa_iadd ?_
    refine wb_pfi 226 rfl (wy_pr rfl) wt_226 wf_8_4 (n := 4) rfl ⟨(by omega), (by omega)⟩ ?_
    refine wa_return rfl ?_
    show wJ _ _ _ _ _ _ _ _ _ _
    refine wa_return rfl ?_
    refine ⟨rfl, ?_⟩
    first | rw [if_pos (by omega)] | rw [if_neg (by omega)]
    exact ⟨_, Zb, ac20, hev, rfl⟩
end We6
