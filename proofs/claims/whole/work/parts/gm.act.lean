/-! PART gm: act of the class's linker on objects and funs: read, call, method. -/
section Wgm
variable {xs : List (Nat × List Int32)} {M : Nat → Prop} {d : Nat} {S Z : wS}
theorem wJ_top {G : pe_G} {Y : wY} {mt : pe_Mt} {is : List pe_I} {L : wL} {st : List wv} {Q : wO → wS → Prop} {a b : Int} {k : Nat} (e : a = b) (h : wJ G Y M d mt is L ((k, b) :: st) S Q) : wJ G Y M d mt is L ((k, a) :: st) S Q := by subst e; exact h
theorem glx_215 {k v h c p ba : Int} (hC : w_CL S) (hI : gI S) (l4 : S 158 4 = 215) (l5 : S 158 5 = 216) (l8 : S 158 8 = ba) (bc : S 215 4 = c) (bp : S 220 (c - 1) = p) (bl1 : S 218 (-1) = S 217 (-1)) (bl2 : 64 ≤ S 217 (-1) ∧ S 217 (-1) ≤ 4095) (hba : 0 ≤ ba ∧ ba ≤ S 217 (-1)) (bc0 : 1 ≤ c ∧ c ≤ 200) (bp0 : 0 ≤ p ∧ p ≤ 20000) (hk : -128 ≤ k ∧ k ≤ 127) (hv : -9223372036854775808 ≤ v ∧ v ≤ 9223372036854775807) : wJ (pe_GA xs) wY0 (mS [217, 218]) (d + 4) t_XL_giveValue ((pe_at t_XL_giveValue.bl 0).getD (0, [])).2 [(0, (2, 158)), (1, (0, k)), (2, (1, v))] [] S (fun o Z => o = .inl none ∧ sO 215 h c p (h - ba) k v S Z) := by
  refine wJ_mono (gl_215 hC hI ⟨l4, l5⟩ hk hv ⟨bl1, bl2⟩ (by rw [l8]; exact hba) (by rw [bc]; exact bc0) (by rw [bc, bp]; omega)) (fun o Z hz => ⟨hz.1, ?_⟩)
  obtain ⟨A, ha, hz2⟩ := hz.2
  rw [l8] at ha
  rw [bc, bp] at hz2
  exact ⟨A, by show ra_ag 216 217 218 (w_up S 216 2 (h - (h - ba))) A k v; rw [show h - (h - ba) = ba by omega]; exact ha, hz2⟩
theorem glx_226 {k v h c p ba : Int} (hC : w_CL S) (hI : gI S) (l4 : S 158 4 = 226) (l5 : S 158 5 = 227) (l8 : S 158 8 = ba) (bc : S 226 4 = c) (bp : S 231 (c - 1) = p) (bl1 : S 229 (-1) = S 228 (-1)) (bl2 : 64 ≤ S 228 (-1) ∧ S 228 (-1) ≤ 4095) (hba : 0 ≤ ba ∧ ba ≤ S 228 (-1)) (bc0 : 1 ≤ c ∧ c ≤ 200) (bp0 : 0 ≤ p ∧ p ≤ 20000) (hk : -128 ≤ k ∧ k ≤ 127) (hv : -9223372036854775808 ≤ v ∧ v ≤ 9223372036854775807) : wJ (pe_GA xs) wY0 (mS [228, 229]) (d + 4) t_XL_giveValue ((pe_at t_XL_giveValue.bl 0).getD (0, [])).2 [(0, (2, 158)), (1, (0, k)), (2, (1, v))] [] S (fun o Z => o = .inl none ∧ sO 226 h c p (h - ba) k v S Z) := by
  refine wJ_mono (gl_226 hC hI ⟨l4, l5⟩ hk hv ⟨bl1, bl2⟩ (by rw [l8]; exact hba) (by rw [bc]; exact bc0) (by rw [bc, bp]; omega)) (fun o Z hz => ⟨hz.1, ?_⟩)
  obtain ⟨A, ha, hz2⟩ := hz.2
  rw [l8] at ha
  rw [bc, bp] at hz2
  exact ⟨A, by show ra_ag 227 228 229 (w_up S 227 2 (h - (h - ba))) A k v; rw [show h - (h - ba) = ba by omega]; exact ha, hz2⟩
set_option maxHeartbeats 4000000 in
theorem xcal_215 {c p h kd ba gk gb x cs n u0 v0 fn f ar vs pn : Int} (hP : xP 215 c p h S) (hl : cSl S) (l4 : S 158 4 = 215) (l5 : S 158 5 = 216) (l7 : S 158 7 = kd) (l8 : S 158 8 = ba) (l9 : S 158 9 = gk) (l10 : S 158 10 = gb) (hx : 0 ≤ x ∧ x < S 48 (-1)) (hba : 0 ≤ ba ∧ ba < h) (hth : ∀ x : Nat, x < 10 → S (127 + x) (-1) = S 127 (-1)) (hn2 : S 127 (-1) ≤ 16383) (hl14 : S 142 (-1) = S 141 (-1)) (hz14 : 16 ≤ S 141 (-1) ∧ S 141 (-1) ≤ 480400) (hx1 : pe_at (pe_GA xs).xs 1 = some (1, tx_1)) (h2 : S 140 2 = cs) (hcs : 0 ≤ cs ∧ cs ≤ S 141 (-1)) (hcl : S 139 (-1) = S 138 (-1)) (hm : S 72 5 = n) (hm1 : 0 ≤ n ∧ n ≤ S 138 (-1)) (hm2 : 64 ≤ S 138 (-1) ∧ S 138 (-1) ≤ 16383) (hu0 : S 150 0 = u0) (hu1 : 0 ≤ u0 ∧ u0 ≤ 8000) (hv0 : S 150 1 = v0) (hv1 : 0 ≤ v0 ∧ v0 ≤ 60000) (hfn : 0 ≤ fn ∧ fn < S 127 (-1)) (hf : S 129 fn = f) (hf1 : 0 ≤ f ∧ f < 400) (har : S 136 fn = ar) (hvs : S 23 f = vs) (hvs1 : 0 ≤ vs ∧ vs ≤ 1000) (hpn : S 22 f = pn) (hpn1 : 0 ≤ pn ∧ pn ≤ 1000) (hpr : S 215 16 = 0) (e48 : S 48 x = 0) (hkd : kd = 4) (hgb : gb = fn) : wJ (pe_GA xs) wY0 (mS [217, 218, 138, 139, 141, 142]) (d + 8) t_XL_act ((pe_at t_XL_act.bl 0).getD (0, [])).2 [(0, (2, 158)), (1, (0, x))] [] S (fun o Z => o = .inl none ∧ ((c < 200 ∧ u0 + 1 ≤ 8000 ∧ v0 + vs ≤ 60000 ∧ enQ_215 ar vs (if h - ba - 1 ≤ pn then h - ba - 1 else pn) ba c p f n 0 0 0 cs S Z) ∨ (c = 200 ∧ w_up S 215 16 11 = Z) ∨ (c < 200 ∧ ¬ (u0 + 1 ≤ 8000 ∧ v0 + vs ≤ 60000) ∧ w_up S 215 16 99 = Z))) := by
  obtain ⟨⟨hC, hI⟩, ⟨bc, bc0, bc1⟩, ⟨bp, bp0, bp1⟩, ⟨bh, bh0, bh1, bh2⟩, bl1, bl2, bl3⟩ := hP
  replace bp : S 220 (c - 1) = p := bp
  replace bh : S 216 2 = h := bh
  replace bh2 : h ≤ S 217 (-1) := bh2
  replace bl1 : S 218 (-1) = S 217 (-1) := bl1
  replace bl2 : 64 ≤ S 217 (-1) := bl2
  replace bl3 : S 217 (-1) ≤ 4095 := bl3
  have h35 := hl.2.1
  have h48 := hl.2.2.2
  subst hgb
  refine wa_aload_n (n := 0) rfl ?_
  refine wb_gf4 158 rfl (wy_pr rfl) wt_158 wf_5_3 (v := 47) wl_158_3 ?_
  refine wa_iconst ?_
  refine wb_aald5 47 3 rfl rfl (wy_pr rfl) wt_47 (by rw [show _ = _ from ((cl_47 hC))]; omega) wl_47_3 ?_
  refine wa_iload_n (n := 1) rfl ?_
  refine wb_iald 51 rfl (wy_pr rfl) wt_51 (n := (S 48 (-1))) ((hl.2.2.1 3 (by decide))) (by omega) (by omega) (v := (S 51 x)) rfl (fun r1 => ?_)
  refine wa_istore_n (n := 2) rfl ?_
  refine wa_aload_n (n := 0) rfl ?_
  refine wb_gf4 158 rfl (wy_pr rfl) wt_158 wf_5_3 (v := 47) wl_158_3 ?_
  refine wa_iconst ?_
  refine wb_aald5 47 0 rfl rfl (wy_pr rfl) wt_47 (by rw [show _ = _ from ((cl_47 hC))]; omega) wl_47_0 ?_
  refine wa_iload_n (n := 1) rfl ?_
  refine wb_iald 48 rfl (wy_pr rfl) wt_48 (n := (S 48 (-1))) (rfl) (by omega) (by omega) (v := 0) (e48) (fun r2 => ?_)
  refine wa_lw (tb := 0) (w_rg0 (by omega) (by omega)) (q := (27, 1)) (by first | rfl | decide) ⟨_, rfl⟩ ?_
  refine wa_aload_n (n := 0) rfl ?_
  refine wb_gfi 158 rfl (wy_pr rfl) wt_158 wf_5_7 (v := kd) (l7) (fun r3 => ?_)
  refine wa_bipush (w_rg2 (by omega) (by omega)) ?_
  refine wa_icmpne (w_rg0 (by omega) (by omega)) (w_rg0 (by omega) (by omega)) ⟨_, rfl⟩ (fun c4 => ?_) (fun c4 => ?_)
  · skip
    refine wa_aload_n (n := 0) rfl ?_
    refine wa_iload_n (n := 1) rfl ?_
    refine wa_aload_n (n := 0) rfl ?_
    refine wb_gfl 158 rfl (wy_pr rfl) wt_158 wf_5_10 (v := gb) (l10) (fun r5 => ?_)
    refine wb_l2i_r (wb_l2i_id ⟨(by omega), (by omega)⟩) ?_
    refine wa_cv 158 rfl (wy_pr rfl) wt_158 (M2 := mS [217, 218, 138, 139, 141, 142]) rfl at_XL_actOnThing ⟨_, rfl⟩ rfl rfl ⟨trivial, (Or.inr ⟨wy_pr rfl, mS_no rfl⟩), trivial, trivial⟩ trivial (fun _ _ q => q) ?_ (fun _ _ _ q => q)
    refine wa_aload_n (n := 0) rfl ?_
    refine wb_gfi 158 rfl (wy_pr rfl) wt_158 wf_5_7 (v := kd) (l7) (fun r6 => ?_)
    refine wa_iconst ?_
    refine wa_icmpne (w_rg0 (by omega) (by omega)) (w_rg0 (by omega) (by omega)) ⟨_, rfl⟩ (fun c7 => ?_) (fun c7 => ?_)
    · skip
      exact absurd c7 (by omega)
    · skip
      refine wa_aload_n (n := 0) rfl ?_
      refine wb_gf5 158 rfl (wy_pr rfl) wt_158 wf_5_4 (v := 215) (l4) (fun r8 => ?_)
      refine wa_iload_n (n := 2) rfl ?_
      refine wa_iconst ?_
      refine wa_cv 215 rfl (wy_pr rfl) wt_215 (M2 := mS []) rfl at_XK_canEnter ⟨_, rfl⟩ rfl rfl ⟨(Or.inr ⟨wy_pr rfl, mS_no rfl⟩), trivial, trivial, trivial⟩ trivial (fun _ _ q => mS_sub (by decide) q) (ce_215 (fn := gb) (n0 := 0) hx1 hC (hth 2 (by decide)) hfn hf hf1 hvs hvs1 bc ⟨by omega, by omega⟩ hu0 hu1 hv0 hv1 (by decide) hpr) (fun oq9 Sq9 hp10 q9 => ?_)
      rcases q9 with ⟨cc1, cc2, cc3, rfl, rfl⟩ | ⟨cc1, rfl, rfl⟩ | ⟨cc1, cc2, rfl, rfl⟩
      · skip
        show wJ _ _ _ _ _ _ _ _ _ _
        refine wa_ifeq (w_rg0 (by omega) (by omega)) ⟨_, rfl⟩ (fun c11 => ?_) (fun c11 => ?_)
        · skip
          exact absurd c11 (by omega)
        · skip
          refine wa_aload_n (n := 0) rfl ?_
          refine wb_gf5 158 rfl (wy_pr rfl) wt_158 wf_5_4 (v := 215) (l4) (fun r12 => ?_)
          refine wa_iload_n (n := 2) rfl ?_
          refine wa_aload_n (n := 0) rfl ?_
          refine wb_gfi 158 rfl (wy_pr rfl) wt_158 wf_5_8 (v := ba) (l8) (fun r13 => ?_)
          refine wa_iconst ?_
          refine wb_lconst (m := 0) rfl ?_
          refine wa_iconst ?_
          refine wa_cv 215 rfl (wy_pr rfl) wt_215 (M2 := mS [138, 139, 141, 142]) rfl at_XK_enter ⟨_, rfl⟩ rfl rfl ⟨(Or.inr ⟨wy_pr rfl, mS_no rfl⟩), trivial, trivial, trivial⟩ trivial (fun _ _ q => mS_sub (by decide) q) (en_215 (fn := gb) (pl := ba) (kd := 0) (bt := 0) (nw := 0) hC hI h2 hcs hl14 hz14 hcl hm hm1 hm2 hu0 hu1 hv0 hv1 ⟨hth 2 (by decide), hth 9 (by decide)⟩ hfn hf hf1 har hvs hvs1 hpn hpn1 bc ⟨by omega, by omega⟩ bp ⟨by omega, by omega⟩ bh bh2 ⟨bl1, bl3⟩ ⟨by omega, by omega⟩ (by omega) (by omega) ⟨by omega, by omega⟩ ⟨by omega, by omega⟩ (by decide)) (fun oq14 Sq14 hp15 q14 => ?_)
          rcases q14 with ⟨rfl, hen⟩
          show wJ _ _ _ _ _ _ _ _ _ _
          refine wa_goto ⟨_, rfl⟩ ?_
          refine wa_return rfl ?_
          show wJ _ _ _ _ _ _ _ _ _ _
          refine wa_goto ⟨_, rfl⟩ ?_
          refine wa_return rfl ?_
          exact ⟨rfl, Or.inl ⟨by omega, by omega, by omega, hen⟩⟩
      · skip
        show wJ _ _ _ _ _ _ _ _ _ _
        refine wa_ifeq (w_rg0 (by omega) (by omega)) ⟨_, rfl⟩ (fun c16 => ?_) (fun c16 => ?_)
        · skip
          refine wa_return rfl ?_
          show wJ _ _ _ _ _ _ _ _ _ _
          refine wa_goto ⟨_, rfl⟩ ?_
          refine wa_return rfl ?_
          exact ⟨rfl, Or.inr (Or.inl ⟨by omega, rfl⟩)⟩
        · skip
          exact absurd c16 (by omega)
      · skip
        show wJ _ _ _ _ _ _ _ _ _ _
        refine wa_ifeq (w_rg0 (by omega) (by omega)) ⟨_, rfl⟩ (fun c17 => ?_) (fun c17 => ?_)
        · skip
          refine wa_return rfl ?_
          show wJ _ _ _ _ _ _ _ _ _ _
          refine wa_goto ⟨_, rfl⟩ ?_
          refine wa_return rfl ?_
          exact ⟨rfl, Or.inr (Or.inr ⟨by omega, by omega, rfl⟩)⟩
        · skip
          exact absurd c17 (by omega)
  · skip
    exact absurd c4 (by omega)
set_option maxHeartbeats 4000000 in
theorem xget_215 {c p h kd ba gk gb x hd st wh vk vb e50  : Int} (hP : xP 215 c p h S) (hl : cSl S) (l4 : S 158 4 = 215) (l5 : S 158 5 = 216) (l7 : S 158 7 = kd) (l8 : S 158 8 = ba) (l9 : S 158 9 = gk) (l10 : S 158 10 = gb) (hx : 0 ≤ x ∧ x < S 48 (-1)) (hba : 0 ≤ ba ∧ ba < h) (hth : ∀ x : Nat, x < 10 → S (127 + x) (-1) = S 127 (-1)) (hn2 : S 127 (-1) ≤ 16383) (hl14 : S 142 (-1) = S 141 (-1)) (hz14 : 16 ≤ S 141 (-1) ∧ S 141 (-1) ≤ 480400) (e48 : S 48 x = 0) (hh0 : 0 ≤ hd ∧ hd < S 127 (-1)) (hhd : (e50 = -1 ∧ hd = gb) ∨ (e50 ≠ -1 ∧ hd = e50)) (he50 : S 50 x = e50) (he51 : S 51 x = wh) (hgb : 0 ≤ gb ∧ gb < S 127 (-1)) (hst : S 133 hd = st) (hwh : (wh = -1 ∧ vk = 0 ∧ vb = 0 ∧ -1000 ≤ st ∧ st ≤ 1000000) ∨ (0 ≤ wh ∧ wh ≤ 100000 ∧ 0 ≤ st ∧ st + wh < S 141 (-1) ∧ S 141 (st + wh) = vk ∧ S 142 (st + wh) = vb)) (hkd : kd = 0 ∨ kd = 2) (hvk : -128 ≤ vk ∧ vk ≤ 127) (hvb : -9223372036854775808 ≤ vb ∧ vb ≤ 9223372036854775807) : wJ (pe_GA xs) wY0 (mS [217, 218]) (d + 8) t_XL_act ((pe_at t_XL_act.bl 0).getD (0, [])).2 [(0, (2, 158)), (1, (0, x))] [] S (fun o Z => o = .inl none ∧ sO 215 h c p (h - ba) vk vb S Z) := by
  obtain ⟨⟨hC, hI⟩, ⟨bc, bc0, bc1⟩, ⟨bp, bp0, bp1⟩, ⟨bh, bh0, bh1, bh2⟩, bl1, bl2, bl3⟩ := hP
  replace bp : S 220 (c - 1) = p := bp
  replace bh : S 216 2 = h := bh
  replace bh2 : h ≤ S 217 (-1) := bh2
  replace bl1 : S 218 (-1) = S 217 (-1) := bl1
  replace bl2 : 64 ≤ S 217 (-1) := bl2
  replace bl3 : S 217 (-1) ≤ 4095 := bl3
  have h35 := hl.2.1
  have h48 := hl.2.2.2
  refine wa_aload_n (n := 0) rfl ?_
  refine wb_gf4 158 rfl (wy_pr rfl) wt_158 wf_5_3 (v := 47) wl_158_3 ?_
  refine wa_iconst ?_
  refine wb_aald5 47 3 rfl rfl (wy_pr rfl) wt_47 (by rw [show _ = _ from ((cl_47 hC))]; omega) wl_47_3 ?_
  refine wa_iload_n (n := 1) rfl ?_
  refine wb_iald 51 rfl (wy_pr rfl) wt_51 (n := (S 48 (-1))) ((hl.2.2.1 3 (by decide))) (by omega) (by omega) (v := wh) (he51) (fun r1 => ?_)
  refine wa_istore_n (n := 2) rfl ?_
  refine wa_aload_n (n := 0) rfl ?_
  refine wb_gf4 158 rfl (wy_pr rfl) wt_158 wf_5_3 (v := 47) wl_158_3 ?_
  refine wa_iconst ?_
  refine wb_aald5 47 0 rfl rfl (wy_pr rfl) wt_47 (by rw [show _ = _ from ((cl_47 hC))]; omega) wl_47_0 ?_
  refine wa_iload_n (n := 1) rfl ?_
  refine wb_iald 48 rfl (wy_pr rfl) wt_48 (n := (S 48 (-1))) (rfl) (by omega) (by omega) (v := 0) (e48) (fun r2 => ?_)
  refine wa_lw (tb := 0) (w_rg0 (by omega) (by omega)) (q := (27, 1)) (by first | rfl | decide) ⟨_, rfl⟩ ?_
  refine wa_aload_n (n := 0) rfl ?_
  refine wb_gfi 158 rfl (wy_pr rfl) wt_158 wf_5_7 (v := kd) (l7) (fun r3 => ?_)
  refine wa_bipush (w_rg2 (by omega) (by omega)) ?_
  refine wa_icmpne (w_rg0 (by omega) (by omega)) (w_rg0 (by omega) (by omega)) ⟨_, rfl⟩ (fun c4 => ?_) (fun c4 => ?_)
  · skip
    refine wa_aload_n (n := 0) rfl ?_
    refine wa_iload_n (n := 1) rfl ?_
    refine wa_aload_n (n := 0) rfl ?_
    refine wb_gfl 158 rfl (wy_pr rfl) wt_158 wf_5_10 (v := gb) (l10) (fun r5 => ?_)
    refine wb_l2i_r (wb_l2i_id ⟨(by omega), (by omega)⟩) ?_
    refine wa_cv 158 rfl (wy_pr rfl) wt_158 (M2 := mS [217, 218]) rfl at_XL_actOnThing ⟨_, rfl⟩ rfl rfl ⟨trivial, (Or.inr ⟨wy_pr rfl, mS_no rfl⟩), trivial, trivial⟩ trivial (fun _ _ q => q) ?_ (fun _ _ _ q => q)
    refine wa_aload_n (n := 0) rfl ?_
    refine wb_gfi 158 rfl (wy_pr rfl) wt_158 wf_5_7 (v := kd) (l7) (fun r6 => ?_)
    refine wa_iconst ?_
    refine wa_icmpne (w_rg0 (by omega) (by omega)) (w_rg0 (by omega) (by omega)) ⟨_, rfl⟩ (fun c7 => ?_) (fun c7 => ?_)
    · skip
      refine wa_aload_n (n := 0) rfl ?_
      refine wb_gfi 158 rfl (wy_pr rfl) wt_158 wf_5_7 (v := kd) (l7) (fun r8 => ?_)
      refine wa_iconst ?_
      refine wa_icmpeq (w_rg0 (by omega) (by omega)) (w_rg0 (by omega) (by omega)) ⟨_, rfl⟩ (fun c9 => ?_) (fun c9 => ?_)
      · skip
        exact absurd c9 (by omega)
      · skip
        refine wa_aload_n (n := 0) rfl ?_
        refine wb_gfi 158 rfl (wy_pr rfl) wt_158 wf_5_7 (v := kd) (l7) (fun r10 => ?_)
        refine wa_iconst ?_
        refine wa_icmpne (w_rg0 (by omega) (by omega)) (w_rg0 (by omega) (by omega)) ⟨_, rfl⟩ (fun c11 => ?_) (fun c11 => ?_)
        · skip
          refine wa_aload_n (n := 0) rfl ?_
          refine wb_gf4 158 rfl (wy_pr rfl) wt_158 wf_5_3 (v := 47) wl_158_3 ?_
          refine wa_iconst ?_
          refine wb_aald5 47 3 rfl rfl (wy_pr rfl) wt_47 (by rw [show _ = _ from ((cl_47 hC))]; omega) wl_47_3 ?_
          refine wa_iload_n (n := 1) rfl ?_
          refine wb_iald 51 rfl (wy_pr rfl) wt_51 (n := (S 48 (-1))) ((hl.2.2.1 3 (by decide))) (by omega) (by omega) (v := wh) (he51) (fun r12 => ?_)
          refine wa_istore_n (n := 3) rfl ?_
          refine wa_aload_n (n := 0) rfl ?_
          refine wb_gf4 158 rfl (wy_pr rfl) wt_158 wf_5_3 (v := 47) wl_158_3 ?_
          refine wa_iconst ?_
          refine wb_aald5 47 2 rfl rfl (wy_pr rfl) wt_47 (by rw [show _ = _ from ((cl_47 hC))]; omega) wl_47_2 ?_
          refine wa_iload_n (n := 1) rfl ?_
          refine wb_iald 50 rfl (wy_pr rfl) wt_50 (n := (S 48 (-1))) ((hl.2.2.1 2 (by decide))) (by omega) (by omega) (v := e50) (he50) (fun r13 => ?_)
          refine wa_iconst ?_
          refine wa_icmpne (w_rg0 (by omega) (by omega)) (w_rg0 (by omega) (by omega)) ⟨_, rfl⟩ (fun c14 => ?_) (fun c14 => ?_)
          · skip
            refine wa_aload_n (n := 0) rfl ?_
            refine wb_gf4 158 rfl (wy_pr rfl) wt_158 wf_5_3 (v := 47) wl_158_3 ?_
            refine wa_iconst ?_
            refine wb_aald5 47 2 rfl rfl (wy_pr rfl) wt_47 (by rw [show _ = _ from ((cl_47 hC))]; omega) wl_47_2 ?_
            refine wa_iload_n (n := 1) rfl ?_
            refine wb_iald 50 rfl (wy_pr rfl) wt_50 (n := (S 48 (-1))) ((hl.2.2.1 2 (by decide))) (by omega) (by omega) (v := e50) (he50) (fun r15 => ?_)
            refine wa_fall ⟨_, rfl⟩ ?_
            refine wJ_top (show (e50 : Int) = hd by omega) ?_
            refine wa_istore (n := 4) rfl ?_
            refine wa_aload_n (n := 0) rfl ?_
            refine wb_gf4 158 rfl (wy_pr rfl) wt_158 wf_5_0 (v := 72) wl_158_0 ?_
            refine wb_gf4 72 rfl (wy_pr rfl) wt_72 wf_2_2 (v := 126) wl_72_2 ?_
            refine wa_bipush (w_rg2 (by omega) (by omega)) ?_
            refine wb_aald5 126 6 rfl rfl (wy_pr rfl) wt_126 (by rw [show _ = _ from ((cl_126 hC))]; omega) wl_126_6 ?_
            refine wa_iload (n := 4) rfl ?_
            refine wb_iald 133 rfl (wy_pr rfl) wt_133 (n := (S 127 (-1))) ((hth 6 (by decide))) (by omega) (by omega) (v := st) (hst) (fun r16 => ?_)
            refine wa_iload_n (n := 3) rfl ?_
            refine wa_iadd ?_
            refine wa_istore (n := 5) rfl ?_
            refine wa_iload_n (n := 3) rfl ?_
            refine wa_iconst ?_
            refine wa_icmpne (w_rg0 (by omega) (by omega)) (w_rg0 (by omega) (by omega)) ⟨_, rfl⟩ (fun c17 => ?_) (fun c17 => ?_)
            · skip
              refine wa_aload_n (n := 0) rfl ?_
              refine wb_gf4 158 rfl (wy_pr rfl) wt_158 wf_5_0 (v := 72) wl_158_0 ?_
              refine wb_gf4 72 rfl (wy_pr rfl) wt_72 wf_2_6 (v := 140) wl_72_6 ?_
              refine wb_gf4 140 rfl (wy_pr rfl) wt_140 wf_7_0 (v := 141) wl_140_0 ?_
              refine wa_iload (n := 5) rfl ?_
              refine wb_bald 141 rfl (wy_pr rfl) wt_141 (n := (S 141 (-1))) (rfl) (by omega) (by omega) (v := (S 141 (st + wh))) rfl (fun r18 => ?_)
              refine wa_fall ⟨_, rfl⟩ ?_
              have hv7 : (S 141 (st + wh)) = vk := by omega
              refine wJ_top hv7 ?_
              refine wa_istore (n := 6) rfl ?_
              refine wa_iload_n (n := 3) rfl ?_
              refine wa_iconst ?_
              refine wa_icmpne (w_rg0 (by omega) (by omega)) (w_rg0 (by omega) (by omega)) ⟨_, rfl⟩ (fun c19 => ?_) (fun c19 => ?_)
              · skip
                refine wa_aload_n (n := 0) rfl ?_
                refine wb_gf4 158 rfl (wy_pr rfl) wt_158 wf_5_0 (v := 72) wl_158_0 ?_
                refine wb_gf4 72 rfl (wy_pr rfl) wt_72 wf_2_6 (v := 140) wl_72_6 ?_
                refine wb_gf4 140 rfl (wy_pr rfl) wt_140 wf_7_1 (v := 142) wl_140_1 ?_
                refine wa_iload (n := 5) rfl ?_
                refine wb_lald 142 rfl (wy_pr rfl) wt_142 (n := (S 141 (-1))) (hl14) (by omega) (by omega) (v := (S 142 (st + wh))) rfl (fun r20 => ?_)
                refine wa_fall ⟨_, rfl⟩ ?_
                have hv9 : (S 142 (st + wh)) = vb := by omega
                refine wJ_top hv9 ?_
                refine wa_lstore (n := 7) rfl ?_
                refine wa_aload_n (n := 0) rfl ?_
                refine wb_gfi 158 rfl (wy_pr rfl) wt_158 wf_5_7 (v := kd) (l7) (fun r21 => ?_)
                refine wa_iconst ?_
                refine wa_icmpeq (w_rg0 (by omega) (by omega)) (w_rg0 (by omega) (by omega)) ⟨_, rfl⟩ (fun c22 => ?_) (fun c22 => ?_)
                · skip
                  exact absurd c22 (by omega)
                · skip
                  refine wa_aload_n (n := 0) rfl ?_
                  refine wa_iload (n := 6) rfl ?_
                  refine wa_lload (n := 7) rfl ?_
                  refine wa_cv 158 rfl (wy_pr rfl) wt_158 (M2 := mS [217, 218]) rfl at_XL_giveValue ⟨_, rfl⟩ rfl rfl ⟨trivial, trivial, trivial, trivial, trivial, (Or.inr ⟨wy_pr rfl, mS_no rfl⟩), trivial, trivial, trivial⟩ trivial (fun _ _ q => mS_sub (by decide) q) (glx_215 (S := S) (k := vk) (v := vb) (h := h) (c := c) (p := p) (ba := ba) hC hI (l4) (l5) (l8) (bc) (bp) (((bl1)).trans ((rfl)).symm) (by have e : S 217 (-1) = S 217 (-1) := (rfl); rw [e]; exact ⟨bl2, bl3⟩) (by have e : S 217 (-1) = S 217 (-1) := (rfl); omega) ⟨by omega, by omega⟩ ⟨by omega, by omega⟩ ⟨by omega, by omega⟩ ⟨by omega, by omega⟩) (fun oq23 Sq23 hp24 q23 => ?_)
                  rcases q23 with ⟨rfl, hgv23⟩
                  show wJ _ _ _ _ _ _ _ _ _ _
                  refine wa_goto ⟨_, rfl⟩ ?_
                  refine wa_return rfl ?_
                  show wJ _ _ _ _ _ _ _ _ _ _
                  refine wa_goto ⟨_, rfl⟩ ?_
                  refine wa_return rfl ?_
                  exact ⟨rfl, hgv23⟩
              · skip
                exact absurd c19 (by omega)
            · skip
              refine wa_iconst ?_
              refine wa_goto ⟨_, rfl⟩ ?_
              have hv7 : 0 = vk := by omega
              refine wJ_top hv7 ?_
              refine wa_istore (n := 6) rfl ?_
              refine wa_iload_n (n := 3) rfl ?_
              refine wa_iconst ?_
              refine wa_icmpne (w_rg0 (by omega) (by omega)) (w_rg0 (by omega) (by omega)) ⟨_, rfl⟩ (fun c25 => ?_) (fun c25 => ?_)
              · skip
                exact absurd c25 (by omega)
              · skip
                refine wb_lconst (m := 0) rfl ?_
                refine wa_goto ⟨_, rfl⟩ ?_
                have hv9 : 0 = vb := by omega
                refine wJ_top hv9 ?_
                refine wa_lstore (n := 7) rfl ?_
                refine wa_aload_n (n := 0) rfl ?_
                refine wb_gfi 158 rfl (wy_pr rfl) wt_158 wf_5_7 (v := kd) (l7) (fun r26 => ?_)
                refine wa_iconst ?_
                refine wa_icmpeq (w_rg0 (by omega) (by omega)) (w_rg0 (by omega) (by omega)) ⟨_, rfl⟩ (fun c27 => ?_) (fun c27 => ?_)
                · skip
                  exact absurd c27 (by omega)
                · skip
                  refine wa_aload_n (n := 0) rfl ?_
                  refine wa_iload (n := 6) rfl ?_
                  refine wa_lload (n := 7) rfl ?_
                  refine wa_cv 158 rfl (wy_pr rfl) wt_158 (M2 := mS [217, 218]) rfl at_XL_giveValue ⟨_, rfl⟩ rfl rfl ⟨trivial, trivial, trivial, trivial, trivial, (Or.inr ⟨wy_pr rfl, mS_no rfl⟩), trivial, trivial, trivial⟩ trivial (fun _ _ q => mS_sub (by decide) q) (glx_215 (S := S) (k := vk) (v := vb) (h := h) (c := c) (p := p) (ba := ba) hC hI (l4) (l5) (l8) (bc) (bp) (((bl1)).trans ((rfl)).symm) (by have e : S 217 (-1) = S 217 (-1) := (rfl); rw [e]; exact ⟨bl2, bl3⟩) (by have e : S 217 (-1) = S 217 (-1) := (rfl); omega) ⟨by omega, by omega⟩ ⟨by omega, by omega⟩ ⟨by omega, by omega⟩ ⟨by omega, by omega⟩) (fun oq28 Sq28 hp29 q28 => ?_)
                  rcases q28 with ⟨rfl, hgv28⟩
                  show wJ _ _ _ _ _ _ _ _ _ _
                  refine wa_goto ⟨_, rfl⟩ ?_
                  refine wa_return rfl ?_
                  show wJ _ _ _ _ _ _ _ _ _ _
                  refine wa_goto ⟨_, rfl⟩ ?_
                  refine wa_return rfl ?_
                  exact ⟨rfl, hgv28⟩
          · skip
            refine wa_iload_n (n := 2) rfl ?_
            refine wa_goto ⟨_, rfl⟩ ?_
            refine wJ_top (show (gb : Int) = hd by omega) ?_
            refine wa_istore (n := 4) rfl ?_
            refine wa_aload_n (n := 0) rfl ?_
            refine wb_gf4 158 rfl (wy_pr rfl) wt_158 wf_5_0 (v := 72) wl_158_0 ?_
            refine wb_gf4 72 rfl (wy_pr rfl) wt_72 wf_2_2 (v := 126) wl_72_2 ?_
            refine wa_bipush (w_rg2 (by omega) (by omega)) ?_
            refine wb_aald5 126 6 rfl rfl (wy_pr rfl) wt_126 (by rw [show _ = _ from ((cl_126 hC))]; omega) wl_126_6 ?_
            refine wa_iload (n := 4) rfl ?_
            refine wb_iald 133 rfl (wy_pr rfl) wt_133 (n := (S 127 (-1))) ((hth 6 (by decide))) (by omega) (by omega) (v := st) (hst) (fun r30 => ?_)
            refine wa_iload_n (n := 3) rfl ?_
            refine wa_iadd ?_
            refine wa_istore (n := 5) rfl ?_
            refine wa_iload_n (n := 3) rfl ?_
            refine wa_iconst ?_
            refine wa_icmpne (w_rg0 (by omega) (by omega)) (w_rg0 (by omega) (by omega)) ⟨_, rfl⟩ (fun c31 => ?_) (fun c31 => ?_)
            · skip
              refine wa_aload_n (n := 0) rfl ?_
              refine wb_gf4 158 rfl (wy_pr rfl) wt_158 wf_5_0 (v := 72) wl_158_0 ?_
              refine wb_gf4 72 rfl (wy_pr rfl) wt_72 wf_2_6 (v := 140) wl_72_6 ?_
              refine wb_gf4 140 rfl (wy_pr rfl) wt_140 wf_7_0 (v := 141) wl_140_0 ?_
              refine wa_iload (n := 5) rfl ?_
              refine wb_bald 141 rfl (wy_pr rfl) wt_141 (n := (S 141 (-1))) (rfl) (by omega) (by omega) (v := (S 141 (st + wh))) rfl (fun r32 => ?_)
              refine wa_fall ⟨_, rfl⟩ ?_
              have hv7 : (S 141 (st + wh)) = vk := by omega
              refine wJ_top hv7 ?_
              refine wa_istore (n := 6) rfl ?_
              refine wa_iload_n (n := 3) rfl ?_
              refine wa_iconst ?_
              refine wa_icmpne (w_rg0 (by omega) (by omega)) (w_rg0 (by omega) (by omega)) ⟨_, rfl⟩ (fun c33 => ?_) (fun c33 => ?_)
              · skip
                refine wa_aload_n (n := 0) rfl ?_
                refine wb_gf4 158 rfl (wy_pr rfl) wt_158 wf_5_0 (v := 72) wl_158_0 ?_
                refine wb_gf4 72 rfl (wy_pr rfl) wt_72 wf_2_6 (v := 140) wl_72_6 ?_
                refine wb_gf4 140 rfl (wy_pr rfl) wt_140 wf_7_1 (v := 142) wl_140_1 ?_
                refine wa_iload (n := 5) rfl ?_
                refine wb_lald 142 rfl (wy_pr rfl) wt_142 (n := (S 141 (-1))) (hl14) (by omega) (by omega) (v := (S 142 (st + wh))) rfl (fun r34 => ?_)
                refine wa_fall ⟨_, rfl⟩ ?_
                have hv9 : (S 142 (st + wh)) = vb := by omega
                refine wJ_top hv9 ?_
                refine wa_lstore (n := 7) rfl ?_
                refine wa_aload_n (n := 0) rfl ?_
                refine wb_gfi 158 rfl (wy_pr rfl) wt_158 wf_5_7 (v := kd) (l7) (fun r35 => ?_)
                refine wa_iconst ?_
                refine wa_icmpeq (w_rg0 (by omega) (by omega)) (w_rg0 (by omega) (by omega)) ⟨_, rfl⟩ (fun c36 => ?_) (fun c36 => ?_)
                · skip
                  exact absurd c36 (by omega)
                · skip
                  refine wa_aload_n (n := 0) rfl ?_
                  refine wa_iload (n := 6) rfl ?_
                  refine wa_lload (n := 7) rfl ?_
                  refine wa_cv 158 rfl (wy_pr rfl) wt_158 (M2 := mS [217, 218]) rfl at_XL_giveValue ⟨_, rfl⟩ rfl rfl ⟨trivial, trivial, trivial, trivial, trivial, (Or.inr ⟨wy_pr rfl, mS_no rfl⟩), trivial, trivial, trivial⟩ trivial (fun _ _ q => mS_sub (by decide) q) (glx_215 (S := S) (k := vk) (v := vb) (h := h) (c := c) (p := p) (ba := ba) hC hI (l4) (l5) (l8) (bc) (bp) (((bl1)).trans ((rfl)).symm) (by have e : S 217 (-1) = S 217 (-1) := (rfl); rw [e]; exact ⟨bl2, bl3⟩) (by have e : S 217 (-1) = S 217 (-1) := (rfl); omega) ⟨by omega, by omega⟩ ⟨by omega, by omega⟩ ⟨by omega, by omega⟩ ⟨by omega, by omega⟩) (fun oq37 Sq37 hp38 q37 => ?_)
                  rcases q37 with ⟨rfl, hgv37⟩
                  show wJ _ _ _ _ _ _ _ _ _ _
                  refine wa_goto ⟨_, rfl⟩ ?_
                  refine wa_return rfl ?_
                  show wJ _ _ _ _ _ _ _ _ _ _
                  refine wa_goto ⟨_, rfl⟩ ?_
                  refine wa_return rfl ?_
                  exact ⟨rfl, hgv37⟩
              · skip
                exact absurd c33 (by omega)
            · skip
              refine wa_iconst ?_
              refine wa_goto ⟨_, rfl⟩ ?_
              have hv7 : 0 = vk := by omega
              refine wJ_top hv7 ?_
              refine wa_istore (n := 6) rfl ?_
              refine wa_iload_n (n := 3) rfl ?_
              refine wa_iconst ?_
              refine wa_icmpne (w_rg0 (by omega) (by omega)) (w_rg0 (by omega) (by omega)) ⟨_, rfl⟩ (fun c39 => ?_) (fun c39 => ?_)
              · skip
                exact absurd c39 (by omega)
              · skip
                refine wb_lconst (m := 0) rfl ?_
                refine wa_goto ⟨_, rfl⟩ ?_
                have hv9 : 0 = vb := by omega
                refine wJ_top hv9 ?_
                refine wa_lstore (n := 7) rfl ?_
                refine wa_aload_n (n := 0) rfl ?_
                refine wb_gfi 158 rfl (wy_pr rfl) wt_158 wf_5_7 (v := kd) (l7) (fun r40 => ?_)
                refine wa_iconst ?_
                refine wa_icmpeq (w_rg0 (by omega) (by omega)) (w_rg0 (by omega) (by omega)) ⟨_, rfl⟩ (fun c41 => ?_) (fun c41 => ?_)
                · skip
                  exact absurd c41 (by omega)
                · skip
                  refine wa_aload_n (n := 0) rfl ?_
                  refine wa_iload (n := 6) rfl ?_
                  refine wa_lload (n := 7) rfl ?_
                  refine wa_cv 158 rfl (wy_pr rfl) wt_158 (M2 := mS [217, 218]) rfl at_XL_giveValue ⟨_, rfl⟩ rfl rfl ⟨trivial, trivial, trivial, trivial, trivial, (Or.inr ⟨wy_pr rfl, mS_no rfl⟩), trivial, trivial, trivial⟩ trivial (fun _ _ q => mS_sub (by decide) q) (glx_215 (S := S) (k := vk) (v := vb) (h := h) (c := c) (p := p) (ba := ba) hC hI (l4) (l5) (l8) (bc) (bp) (((bl1)).trans ((rfl)).symm) (by have e : S 217 (-1) = S 217 (-1) := (rfl); rw [e]; exact ⟨bl2, bl3⟩) (by have e : S 217 (-1) = S 217 (-1) := (rfl); omega) ⟨by omega, by omega⟩ ⟨by omega, by omega⟩ ⟨by omega, by omega⟩ ⟨by omega, by omega⟩) (fun oq42 Sq42 hp43 q42 => ?_)
                  rcases q42 with ⟨rfl, hgv42⟩
                  show wJ _ _ _ _ _ _ _ _ _ _
                  refine wa_goto ⟨_, rfl⟩ ?_
                  refine wa_return rfl ?_
                  show wJ _ _ _ _ _ _ _ _ _ _
                  refine wa_goto ⟨_, rfl⟩ ?_
                  refine wa_return rfl ?_
                  exact ⟨rfl, hgv42⟩
        · skip
          exact absurd c11 (by omega)
    · skip
      exact absurd c7 (by omega)
  · skip
    exact absurd c4 (by omega)
set_option maxHeartbeats 4000000 in
theorem xmtn_215 {c p h kd ba gk gb x hd st wh vk vb e50  : Int} (hP : xP 215 c p h S) (hl : cSl S) (l4 : S 158 4 = 215) (l5 : S 158 5 = 216) (l7 : S 158 7 = kd) (l8 : S 158 8 = ba) (l9 : S 158 9 = gk) (l10 : S 158 10 = gb) (hx : 0 ≤ x ∧ x < S 48 (-1)) (hba : 0 ≤ ba ∧ ba < h) (hth : ∀ x : Nat, x < 10 → S (127 + x) (-1) = S 127 (-1)) (hn2 : S 127 (-1) ≤ 16383) (hl14 : S 142 (-1) = S 141 (-1)) (hz14 : 16 ≤ S 141 (-1) ∧ S 141 (-1) ≤ 480400) (e48 : S 48 x = 0) (hh0 : 0 ≤ hd ∧ hd < S 127 (-1)) (hhd : (e50 = -1 ∧ hd = gb) ∨ (e50 ≠ -1 ∧ hd = e50)) (he50 : S 50 x = e50) (he51 : S 51 x = wh) (hgb : 0 ≤ gb ∧ gb < S 127 (-1)) (hst : S 133 hd = st) (hwh : (wh = -1 ∧ vk = 0 ∧ vb = 0 ∧ -1000 ≤ st ∧ st ≤ 1000000) ∨ (0 ≤ wh ∧ wh ≤ 100000 ∧ 0 ≤ st ∧ st + wh < S 141 (-1) ∧ S 141 (st + wh) = vk ∧ S 142 (st + wh) = vb)) (hkd : kd = 5) (hvk : vk ≠ 5 ∧ -128 ≤ vk ∧ vk ≤ 127) : wJ (pe_GA xs) wY0 (mS [217, 218]) (d + 8) t_XL_act ((pe_at t_XL_act.bl 0).getD (0, [])).2 [(0, (2, 158)), (1, (0, x))] [] S (fun o Z => o = .inl none ∧ w_up S 215 16 (if vk = 0 then 4 else 5) = Z) := by
  obtain ⟨⟨hC, hI⟩, ⟨bc, bc0, bc1⟩, ⟨bp, bp0, bp1⟩, ⟨bh, bh0, bh1, bh2⟩, bl1, bl2, bl3⟩ := hP
  replace bp : S 220 (c - 1) = p := bp
  replace bh : S 216 2 = h := bh
  replace bh2 : h ≤ S 217 (-1) := bh2
  replace bl1 : S 218 (-1) = S 217 (-1) := bl1
  replace bl2 : 64 ≤ S 217 (-1) := bl2
  replace bl3 : S 217 (-1) ≤ 4095 := bl3
  have h35 := hl.2.1
  have h48 := hl.2.2.2
  refine wa_aload_n (n := 0) rfl ?_
  refine wb_gf4 158 rfl (wy_pr rfl) wt_158 wf_5_3 (v := 47) wl_158_3 ?_
  refine wa_iconst ?_
  refine wb_aald5 47 3 rfl rfl (wy_pr rfl) wt_47 (by rw [show _ = _ from ((cl_47 hC))]; omega) wl_47_3 ?_
  refine wa_iload_n (n := 1) rfl ?_
  refine wb_iald 51 rfl (wy_pr rfl) wt_51 (n := (S 48 (-1))) ((hl.2.2.1 3 (by decide))) (by omega) (by omega) (v := wh) (he51) (fun r1 => ?_)
  refine wa_istore_n (n := 2) rfl ?_
  refine wa_aload_n (n := 0) rfl ?_
  refine wb_gf4 158 rfl (wy_pr rfl) wt_158 wf_5_3 (v := 47) wl_158_3 ?_
  refine wa_iconst ?_
  refine wb_aald5 47 0 rfl rfl (wy_pr rfl) wt_47 (by rw [show _ = _ from ((cl_47 hC))]; omega) wl_47_0 ?_
  refine wa_iload_n (n := 1) rfl ?_
  refine wb_iald 48 rfl (wy_pr rfl) wt_48 (n := (S 48 (-1))) (rfl) (by omega) (by omega) (v := 0) (e48) (fun r2 => ?_)
  refine wa_lw (tb := 0) (w_rg0 (by omega) (by omega)) (q := (27, 1)) (by first | rfl | decide) ⟨_, rfl⟩ ?_
  refine wa_aload_n (n := 0) rfl ?_
  refine wb_gfi 158 rfl (wy_pr rfl) wt_158 wf_5_7 (v := kd) (l7) (fun r3 => ?_)
  refine wa_bipush (w_rg2 (by omega) (by omega)) ?_
  refine wa_icmpne (w_rg0 (by omega) (by omega)) (w_rg0 (by omega) (by omega)) ⟨_, rfl⟩ (fun c4 => ?_) (fun c4 => ?_)
  · skip
    refine wa_aload_n (n := 0) rfl ?_
    refine wa_iload_n (n := 1) rfl ?_
    refine wa_aload_n (n := 0) rfl ?_
    refine wb_gfl 158 rfl (wy_pr rfl) wt_158 wf_5_10 (v := gb) (l10) (fun r5 => ?_)
    refine wb_l2i_r (wb_l2i_id ⟨(by omega), (by omega)⟩) ?_
    refine wa_cv 158 rfl (wy_pr rfl) wt_158 (M2 := mS [217, 218]) rfl at_XL_actOnThing ⟨_, rfl⟩ rfl rfl ⟨trivial, (Or.inr ⟨wy_pr rfl, mS_no rfl⟩), trivial, trivial⟩ trivial (fun _ _ q => q) ?_ (fun _ _ _ q => q)
    refine wa_aload_n (n := 0) rfl ?_
    refine wb_gfi 158 rfl (wy_pr rfl) wt_158 wf_5_7 (v := kd) (l7) (fun r6 => ?_)
    refine wa_iconst ?_
    refine wa_icmpne (w_rg0 (by omega) (by omega)) (w_rg0 (by omega) (by omega)) ⟨_, rfl⟩ (fun c7 => ?_) (fun c7 => ?_)
    · skip
      refine wa_aload_n (n := 0) rfl ?_
      refine wb_gfi 158 rfl (wy_pr rfl) wt_158 wf_5_7 (v := kd) (l7) (fun r8 => ?_)
      refine wa_iconst ?_
      refine wa_icmpeq (w_rg0 (by omega) (by omega)) (w_rg0 (by omega) (by omega)) ⟨_, rfl⟩ (fun c9 => ?_) (fun c9 => ?_)
      · skip
        exact absurd c9 (by omega)
      · skip
        refine wa_aload_n (n := 0) rfl ?_
        refine wb_gfi 158 rfl (wy_pr rfl) wt_158 wf_5_7 (v := kd) (l7) (fun r10 => ?_)
        refine wa_iconst ?_
        refine wa_icmpne (w_rg0 (by omega) (by omega)) (w_rg0 (by omega) (by omega)) ⟨_, rfl⟩ (fun c11 => ?_) (fun c11 => ?_)
        · skip
          refine wa_aload_n (n := 0) rfl ?_
          refine wb_gf4 158 rfl (wy_pr rfl) wt_158 wf_5_3 (v := 47) wl_158_3 ?_
          refine wa_iconst ?_
          refine wb_aald5 47 3 rfl rfl (wy_pr rfl) wt_47 (by rw [show _ = _ from ((cl_47 hC))]; omega) wl_47_3 ?_
          refine wa_iload_n (n := 1) rfl ?_
          refine wb_iald 51 rfl (wy_pr rfl) wt_51 (n := (S 48 (-1))) ((hl.2.2.1 3 (by decide))) (by omega) (by omega) (v := wh) (he51) (fun r12 => ?_)
          refine wa_istore_n (n := 3) rfl ?_
          refine wa_aload_n (n := 0) rfl ?_
          refine wb_gf4 158 rfl (wy_pr rfl) wt_158 wf_5_3 (v := 47) wl_158_3 ?_
          refine wa_iconst ?_
          refine wb_aald5 47 2 rfl rfl (wy_pr rfl) wt_47 (by rw [show _ = _ from ((cl_47 hC))]; omega) wl_47_2 ?_
          refine wa_iload_n (n := 1) rfl ?_
          refine wb_iald 50 rfl (wy_pr rfl) wt_50 (n := (S 48 (-1))) ((hl.2.2.1 2 (by decide))) (by omega) (by omega) (v := e50) (he50) (fun r13 => ?_)
          refine wa_iconst ?_
          refine wa_icmpne (w_rg0 (by omega) (by omega)) (w_rg0 (by omega) (by omega)) ⟨_, rfl⟩ (fun c14 => ?_) (fun c14 => ?_)
          · skip
            refine wa_aload_n (n := 0) rfl ?_
            refine wb_gf4 158 rfl (wy_pr rfl) wt_158 wf_5_3 (v := 47) wl_158_3 ?_
            refine wa_iconst ?_
            refine wb_aald5 47 2 rfl rfl (wy_pr rfl) wt_47 (by rw [show _ = _ from ((cl_47 hC))]; omega) wl_47_2 ?_
            refine wa_iload_n (n := 1) rfl ?_
            refine wb_iald 50 rfl (wy_pr rfl) wt_50 (n := (S 48 (-1))) ((hl.2.2.1 2 (by decide))) (by omega) (by omega) (v := e50) (he50) (fun r15 => ?_)
            refine wa_fall ⟨_, rfl⟩ ?_
            refine wJ_top (show (e50 : Int) = hd by omega) ?_
            refine wa_istore (n := 4) rfl ?_
            refine wa_aload_n (n := 0) rfl ?_
            refine wb_gf4 158 rfl (wy_pr rfl) wt_158 wf_5_0 (v := 72) wl_158_0 ?_
            refine wb_gf4 72 rfl (wy_pr rfl) wt_72 wf_2_2 (v := 126) wl_72_2 ?_
            refine wa_bipush (w_rg2 (by omega) (by omega)) ?_
            refine wb_aald5 126 6 rfl rfl (wy_pr rfl) wt_126 (by rw [show _ = _ from ((cl_126 hC))]; omega) wl_126_6 ?_
            refine wa_iload (n := 4) rfl ?_
            refine wb_iald 133 rfl (wy_pr rfl) wt_133 (n := (S 127 (-1))) ((hth 6 (by decide))) (by omega) (by omega) (v := st) (hst) (fun r16 => ?_)
            refine wa_iload_n (n := 3) rfl ?_
            refine wa_iadd ?_
            refine wa_istore (n := 5) rfl ?_
            refine wa_iload_n (n := 3) rfl ?_
            refine wa_iconst ?_
            refine wa_icmpne (w_rg0 (by omega) (by omega)) (w_rg0 (by omega) (by omega)) ⟨_, rfl⟩ (fun c17 => ?_) (fun c17 => ?_)
            · skip
              refine wa_aload_n (n := 0) rfl ?_
              refine wb_gf4 158 rfl (wy_pr rfl) wt_158 wf_5_0 (v := 72) wl_158_0 ?_
              refine wb_gf4 72 rfl (wy_pr rfl) wt_72 wf_2_6 (v := 140) wl_72_6 ?_
              refine wb_gf4 140 rfl (wy_pr rfl) wt_140 wf_7_0 (v := 141) wl_140_0 ?_
              refine wa_iload (n := 5) rfl ?_
              refine wb_bald 141 rfl (wy_pr rfl) wt_141 (n := (S 141 (-1))) (rfl) (by omega) (by omega) (v := (S 141 (st + wh))) rfl (fun r18 => ?_)
              refine wa_fall ⟨_, rfl⟩ ?_
              have hv7 : (S 141 (st + wh)) = vk := by omega
              refine wJ_top hv7 ?_
              refine wa_istore (n := 6) rfl ?_
              refine wa_iload_n (n := 3) rfl ?_
              refine wa_iconst ?_
              refine wa_icmpne (w_rg0 (by omega) (by omega)) (w_rg0 (by omega) (by omega)) ⟨_, rfl⟩ (fun c19 => ?_) (fun c19 => ?_)
              · skip
                refine wa_aload_n (n := 0) rfl ?_
                refine wb_gf4 158 rfl (wy_pr rfl) wt_158 wf_5_0 (v := 72) wl_158_0 ?_
                refine wb_gf4 72 rfl (wy_pr rfl) wt_72 wf_2_6 (v := 140) wl_72_6 ?_
                refine wb_gf4 140 rfl (wy_pr rfl) wt_140 wf_7_1 (v := 142) wl_140_1 ?_
                refine wa_iload (n := 5) rfl ?_
                refine wb_lald 142 rfl (wy_pr rfl) wt_142 (n := (S 141 (-1))) (hl14) (by omega) (by omega) (v := (S 142 (st + wh))) rfl (fun r20 => ?_)
                refine wa_fall ⟨_, rfl⟩ ?_
                have hv9 : (S 142 (st + wh)) = vb := by omega
                refine wJ_top hv9 ?_
                refine wa_lstore (n := 7) rfl ?_
                refine wa_aload_n (n := 0) rfl ?_
                refine wb_gfi 158 rfl (wy_pr rfl) wt_158 wf_5_7 (v := kd) (l7) (fun r21 => ?_)
                refine wa_iconst ?_
                refine wa_icmpeq (w_rg0 (by omega) (by omega)) (w_rg0 (by omega) (by omega)) ⟨_, rfl⟩ (fun c22 => ?_) (fun c22 => ?_)
                · skip
                  refine wa_iload (n := 6) rfl ?_
                  refine wa_iconst ?_
                  refine wa_icmpeq (w_rg0 (by omega) (by omega)) (w_rg0 (by omega) (by omega)) ⟨_, rfl⟩ (fun c23 => ?_) (fun c23 => ?_)
                  · skip
                    exact absurd c23 (by omega)
                  · skip
                    refine wa_aload_n (n := 0) rfl ?_
                    refine wb_gf5 158 rfl (wy_pr rfl) wt_158 wf_5_4 (v := 215) (l4) (fun r24 => ?_)
                    refine wa_iload (n := 6) rfl ?_
                    refine wa_ifne (w_rg0 (by omega) (by omega)) ⟨_, rfl⟩ (fun c25 => ?_) (fun c25 => ?_)
                    · skip
                      refine wa_iconst ?_
                      refine wa_fall ⟨_, rfl⟩ ?_
                      refine wb_pfi 215 rfl (wy_pr rfl) wt_215 wf_8_16 (n := 16) rfl ⟨(by omega), (by omega)⟩ ?_
                      refine wa_goto ⟨_, rfl⟩ ?_
                      refine wa_return rfl ?_
                      show wJ _ _ _ _ _ _ _ _ _ _
                      refine wa_goto ⟨_, rfl⟩ ?_
                      refine wa_return rfl ?_
                      have ev : (if vk = 0 then 4 else 5 : Int) = 5 := by first | exact if_pos (by omega) | exact if_neg (by omega)
                      exact ⟨rfl, by rw [ev]⟩
                    · skip
                      refine wa_iconst ?_
                      refine wa_goto ⟨_, rfl⟩ ?_
                      refine wb_pfi 215 rfl (wy_pr rfl) wt_215 wf_8_16 (n := 16) rfl ⟨(by omega), (by omega)⟩ ?_
                      refine wa_goto ⟨_, rfl⟩ ?_
                      refine wa_return rfl ?_
                      show wJ _ _ _ _ _ _ _ _ _ _
                      refine wa_goto ⟨_, rfl⟩ ?_
                      refine wa_return rfl ?_
                      have ev : (if vk = 0 then 4 else 5 : Int) = 4 := by first | exact if_pos (by omega) | exact if_neg (by omega)
                      exact ⟨rfl, by rw [ev]⟩
                · skip
                  exact absurd c22 (by omega)
              · skip
                exact absurd c19 (by omega)
            · skip
              refine wa_iconst ?_
              refine wa_goto ⟨_, rfl⟩ ?_
              have hv7 : 0 = vk := by omega
              refine wJ_top hv7 ?_
              refine wa_istore (n := 6) rfl ?_
              refine wa_iload_n (n := 3) rfl ?_
              refine wa_iconst ?_
              refine wa_icmpne (w_rg0 (by omega) (by omega)) (w_rg0 (by omega) (by omega)) ⟨_, rfl⟩ (fun c26 => ?_) (fun c26 => ?_)
              · skip
                exact absurd c26 (by omega)
              · skip
                refine wb_lconst (m := 0) rfl ?_
                refine wa_goto ⟨_, rfl⟩ ?_
                have hv9 : 0 = vb := by omega
                refine wJ_top hv9 ?_
                refine wa_lstore (n := 7) rfl ?_
                refine wa_aload_n (n := 0) rfl ?_
                refine wb_gfi 158 rfl (wy_pr rfl) wt_158 wf_5_7 (v := kd) (l7) (fun r27 => ?_)
                refine wa_iconst ?_
                refine wa_icmpeq (w_rg0 (by omega) (by omega)) (w_rg0 (by omega) (by omega)) ⟨_, rfl⟩ (fun c28 => ?_) (fun c28 => ?_)
                · skip
                  refine wa_iload (n := 6) rfl ?_
                  refine wa_iconst ?_
                  refine wa_icmpeq (w_rg0 (by omega) (by omega)) (w_rg0 (by omega) (by omega)) ⟨_, rfl⟩ (fun c29 => ?_) (fun c29 => ?_)
                  · skip
                    exact absurd c29 (by omega)
                  · skip
                    refine wa_aload_n (n := 0) rfl ?_
                    refine wb_gf5 158 rfl (wy_pr rfl) wt_158 wf_5_4 (v := 215) (l4) (fun r30 => ?_)
                    refine wa_iload (n := 6) rfl ?_
                    refine wa_ifne (w_rg0 (by omega) (by omega)) ⟨_, rfl⟩ (fun c31 => ?_) (fun c31 => ?_)
                    · skip
                      refine wa_iconst ?_
                      refine wa_fall ⟨_, rfl⟩ ?_
                      refine wb_pfi 215 rfl (wy_pr rfl) wt_215 wf_8_16 (n := 16) rfl ⟨(by omega), (by omega)⟩ ?_
                      refine wa_goto ⟨_, rfl⟩ ?_
                      refine wa_return rfl ?_
                      show wJ _ _ _ _ _ _ _ _ _ _
                      refine wa_goto ⟨_, rfl⟩ ?_
                      refine wa_return rfl ?_
                      have ev : (if vk = 0 then 4 else 5 : Int) = 5 := by first | exact if_pos (by omega) | exact if_neg (by omega)
                      exact ⟨rfl, by rw [ev]⟩
                    · skip
                      refine wa_iconst ?_
                      refine wa_goto ⟨_, rfl⟩ ?_
                      refine wb_pfi 215 rfl (wy_pr rfl) wt_215 wf_8_16 (n := 16) rfl ⟨(by omega), (by omega)⟩ ?_
                      refine wa_goto ⟨_, rfl⟩ ?_
                      refine wa_return rfl ?_
                      show wJ _ _ _ _ _ _ _ _ _ _
                      refine wa_goto ⟨_, rfl⟩ ?_
                      refine wa_return rfl ?_
                      have ev : (if vk = 0 then 4 else 5 : Int) = 4 := by first | exact if_pos (by omega) | exact if_neg (by omega)
                      exact ⟨rfl, by rw [ev]⟩
                · skip
                  exact absurd c28 (by omega)
          · skip
            refine wa_iload_n (n := 2) rfl ?_
            refine wa_goto ⟨_, rfl⟩ ?_
            refine wJ_top (show (gb : Int) = hd by omega) ?_
            refine wa_istore (n := 4) rfl ?_
            refine wa_aload_n (n := 0) rfl ?_
            refine wb_gf4 158 rfl (wy_pr rfl) wt_158 wf_5_0 (v := 72) wl_158_0 ?_
            refine wb_gf4 72 rfl (wy_pr rfl) wt_72 wf_2_2 (v := 126) wl_72_2 ?_
            refine wa_bipush (w_rg2 (by omega) (by omega)) ?_
            refine wb_aald5 126 6 rfl rfl (wy_pr rfl) wt_126 (by rw [show _ = _ from ((cl_126 hC))]; omega) wl_126_6 ?_
            refine wa_iload (n := 4) rfl ?_
            refine wb_iald 133 rfl (wy_pr rfl) wt_133 (n := (S 127 (-1))) ((hth 6 (by decide))) (by omega) (by omega) (v := st) (hst) (fun r32 => ?_)
            refine wa_iload_n (n := 3) rfl ?_
            refine wa_iadd ?_
            refine wa_istore (n := 5) rfl ?_
            refine wa_iload_n (n := 3) rfl ?_
            refine wa_iconst ?_
            refine wa_icmpne (w_rg0 (by omega) (by omega)) (w_rg0 (by omega) (by omega)) ⟨_, rfl⟩ (fun c33 => ?_) (fun c33 => ?_)
            · skip
              refine wa_aload_n (n := 0) rfl ?_
              refine wb_gf4 158 rfl (wy_pr rfl) wt_158 wf_5_0 (v := 72) wl_158_0 ?_
              refine wb_gf4 72 rfl (wy_pr rfl) wt_72 wf_2_6 (v := 140) wl_72_6 ?_
              refine wb_gf4 140 rfl (wy_pr rfl) wt_140 wf_7_0 (v := 141) wl_140_0 ?_
              refine wa_iload (n := 5) rfl ?_
              refine wb_bald 141 rfl (wy_pr rfl) wt_141 (n := (S 141 (-1))) (rfl) (by omega) (by omega) (v := (S 141 (st + wh))) rfl (fun r34 => ?_)
              refine wa_fall ⟨_, rfl⟩ ?_
              have hv7 : (S 141 (st + wh)) = vk := by omega
              refine wJ_top hv7 ?_
              refine wa_istore (n := 6) rfl ?_
              refine wa_iload_n (n := 3) rfl ?_
              refine wa_iconst ?_
              refine wa_icmpne (w_rg0 (by omega) (by omega)) (w_rg0 (by omega) (by omega)) ⟨_, rfl⟩ (fun c35 => ?_) (fun c35 => ?_)
              · skip
                refine wa_aload_n (n := 0) rfl ?_
                refine wb_gf4 158 rfl (wy_pr rfl) wt_158 wf_5_0 (v := 72) wl_158_0 ?_
                refine wb_gf4 72 rfl (wy_pr rfl) wt_72 wf_2_6 (v := 140) wl_72_6 ?_
                refine wb_gf4 140 rfl (wy_pr rfl) wt_140 wf_7_1 (v := 142) wl_140_1 ?_
                refine wa_iload (n := 5) rfl ?_
                refine wb_lald 142 rfl (wy_pr rfl) wt_142 (n := (S 141 (-1))) (hl14) (by omega) (by omega) (v := (S 142 (st + wh))) rfl (fun r36 => ?_)
                refine wa_fall ⟨_, rfl⟩ ?_
                have hv9 : (S 142 (st + wh)) = vb := by omega
                refine wJ_top hv9 ?_
                refine wa_lstore (n := 7) rfl ?_
                refine wa_aload_n (n := 0) rfl ?_
                refine wb_gfi 158 rfl (wy_pr rfl) wt_158 wf_5_7 (v := kd) (l7) (fun r37 => ?_)
                refine wa_iconst ?_
                refine wa_icmpeq (w_rg0 (by omega) (by omega)) (w_rg0 (by omega) (by omega)) ⟨_, rfl⟩ (fun c38 => ?_) (fun c38 => ?_)
                · skip
                  refine wa_iload (n := 6) rfl ?_
                  refine wa_iconst ?_
                  refine wa_icmpeq (w_rg0 (by omega) (by omega)) (w_rg0 (by omega) (by omega)) ⟨_, rfl⟩ (fun c39 => ?_) (fun c39 => ?_)
                  · skip
                    exact absurd c39 (by omega)
                  · skip
                    refine wa_aload_n (n := 0) rfl ?_
                    refine wb_gf5 158 rfl (wy_pr rfl) wt_158 wf_5_4 (v := 215) (l4) (fun r40 => ?_)
                    refine wa_iload (n := 6) rfl ?_
                    refine wa_ifne (w_rg0 (by omega) (by omega)) ⟨_, rfl⟩ (fun c41 => ?_) (fun c41 => ?_)
                    · skip
                      refine wa_iconst ?_
                      refine wa_fall ⟨_, rfl⟩ ?_
                      refine wb_pfi 215 rfl (wy_pr rfl) wt_215 wf_8_16 (n := 16) rfl ⟨(by omega), (by omega)⟩ ?_
                      refine wa_goto ⟨_, rfl⟩ ?_
                      refine wa_return rfl ?_
                      show wJ _ _ _ _ _ _ _ _ _ _
                      refine wa_goto ⟨_, rfl⟩ ?_
                      refine wa_return rfl ?_
                      have ev : (if vk = 0 then 4 else 5 : Int) = 5 := by first | exact if_pos (by omega) | exact if_neg (by omega)
                      exact ⟨rfl, by rw [ev]⟩
                    · skip
                      refine wa_iconst ?_
                      refine wa_goto ⟨_, rfl⟩ ?_
                      refine wb_pfi 215 rfl (wy_pr rfl) wt_215 wf_8_16 (n := 16) rfl ⟨(by omega), (by omega)⟩ ?_
                      refine wa_goto ⟨_, rfl⟩ ?_
                      refine wa_return rfl ?_
                      show wJ _ _ _ _ _ _ _ _ _ _
                      refine wa_goto ⟨_, rfl⟩ ?_
                      refine wa_return rfl ?_
                      have ev : (if vk = 0 then 4 else 5 : Int) = 4 := by first | exact if_pos (by omega) | exact if_neg (by omega)
                      exact ⟨rfl, by rw [ev]⟩
                · skip
                  exact absurd c38 (by omega)
              · skip
                exact absurd c35 (by omega)
            · skip
              refine wa_iconst ?_
              refine wa_goto ⟨_, rfl⟩ ?_
              have hv7 : 0 = vk := by omega
              refine wJ_top hv7 ?_
              refine wa_istore (n := 6) rfl ?_
              refine wa_iload_n (n := 3) rfl ?_
              refine wa_iconst ?_
              refine wa_icmpne (w_rg0 (by omega) (by omega)) (w_rg0 (by omega) (by omega)) ⟨_, rfl⟩ (fun c42 => ?_) (fun c42 => ?_)
              · skip
                exact absurd c42 (by omega)
              · skip
                refine wb_lconst (m := 0) rfl ?_
                refine wa_goto ⟨_, rfl⟩ ?_
                have hv9 : 0 = vb := by omega
                refine wJ_top hv9 ?_
                refine wa_lstore (n := 7) rfl ?_
                refine wa_aload_n (n := 0) rfl ?_
                refine wb_gfi 158 rfl (wy_pr rfl) wt_158 wf_5_7 (v := kd) (l7) (fun r43 => ?_)
                refine wa_iconst ?_
                refine wa_icmpeq (w_rg0 (by omega) (by omega)) (w_rg0 (by omega) (by omega)) ⟨_, rfl⟩ (fun c44 => ?_) (fun c44 => ?_)
                · skip
                  refine wa_iload (n := 6) rfl ?_
                  refine wa_iconst ?_
                  refine wa_icmpeq (w_rg0 (by omega) (by omega)) (w_rg0 (by omega) (by omega)) ⟨_, rfl⟩ (fun c45 => ?_) (fun c45 => ?_)
                  · skip
                    exact absurd c45 (by omega)
                  · skip
                    refine wa_aload_n (n := 0) rfl ?_
                    refine wb_gf5 158 rfl (wy_pr rfl) wt_158 wf_5_4 (v := 215) (l4) (fun r46 => ?_)
                    refine wa_iload (n := 6) rfl ?_
                    refine wa_ifne (w_rg0 (by omega) (by omega)) ⟨_, rfl⟩ (fun c47 => ?_) (fun c47 => ?_)
                    · skip
                      refine wa_iconst ?_
                      refine wa_fall ⟨_, rfl⟩ ?_
                      refine wb_pfi 215 rfl (wy_pr rfl) wt_215 wf_8_16 (n := 16) rfl ⟨(by omega), (by omega)⟩ ?_
                      refine wa_goto ⟨_, rfl⟩ ?_
                      refine wa_return rfl ?_
                      show wJ _ _ _ _ _ _ _ _ _ _
                      refine wa_goto ⟨_, rfl⟩ ?_
                      refine wa_return rfl ?_
                      have ev : (if vk = 0 then 4 else 5 : Int) = 5 := by first | exact if_pos (by omega) | exact if_neg (by omega)
                      exact ⟨rfl, by rw [ev]⟩
                    · skip
                      refine wa_iconst ?_
                      refine wa_goto ⟨_, rfl⟩ ?_
                      refine wb_pfi 215 rfl (wy_pr rfl) wt_215 wf_8_16 (n := 16) rfl ⟨(by omega), (by omega)⟩ ?_
                      refine wa_goto ⟨_, rfl⟩ ?_
                      refine wa_return rfl ?_
                      show wJ _ _ _ _ _ _ _ _ _ _
                      refine wa_goto ⟨_, rfl⟩ ?_
                      refine wa_return rfl ?_
                      have ev : (if vk = 0 then 4 else 5 : Int) = 4 := by first | exact if_pos (by omega) | exact if_neg (by omega)
                      exact ⟨rfl, by rw [ev]⟩
                · skip
                  exact absurd c44 (by omega)
        · skip
          exact absurd c11 (by omega)
    · skip
      exact absurd c7 (by omega)
  · skip
    exact absurd c4 (by omega)
set_option maxHeartbeats 4000000 in
theorem xmtf_215 {c p h kd ba gk gb x hd st wh vk vb e50 cs n u0 v0 fn f ar vs pn : Int} (hP : xP 215 c p h S) (hl : cSl S) (l4 : S 158 4 = 215) (l5 : S 158 5 = 216) (l7 : S 158 7 = kd) (l8 : S 158 8 = ba) (l9 : S 158 9 = gk) (l10 : S 158 10 = gb) (hx : 0 ≤ x ∧ x < S 48 (-1)) (hba : 0 ≤ ba ∧ ba < h) (hth : ∀ x : Nat, x < 10 → S (127 + x) (-1) = S 127 (-1)) (hn2 : S 127 (-1) ≤ 16383) (hl14 : S 142 (-1) = S 141 (-1)) (hz14 : 16 ≤ S 141 (-1) ∧ S 141 (-1) ≤ 480400) (e48 : S 48 x = 0) (hh0 : 0 ≤ hd ∧ hd < S 127 (-1)) (hhd : (e50 = -1 ∧ hd = gb) ∨ (e50 ≠ -1 ∧ hd = e50)) (he50 : S 50 x = e50) (he51 : S 51 x = wh) (hgb : 0 ≤ gb ∧ gb < S 127 (-1)) (hst : S 133 hd = st) (hwh : (wh = -1 ∧ vk = 0 ∧ vb = 0 ∧ -1000 ≤ st ∧ st ≤ 1000000) ∨ (0 ≤ wh ∧ wh ≤ 100000 ∧ 0 ≤ st ∧ st + wh < S 141 (-1) ∧ S 141 (st + wh) = vk ∧ S 142 (st + wh) = vb)) (hx1 : pe_at (pe_GA xs).xs 1 = some (1, tx_1)) (h2 : S 140 2 = cs) (hcs : 0 ≤ cs ∧ cs ≤ S 141 (-1)) (hcl : S 139 (-1) = S 138 (-1)) (hm : S 72 5 = n) (hm1 : 0 ≤ n ∧ n ≤ S 138 (-1)) (hm2 : 64 ≤ S 138 (-1) ∧ S 138 (-1) ≤ 16383) (hu0 : S 150 0 = u0) (hu1 : 0 ≤ u0 ∧ u0 ≤ 8000) (hv0 : S 150 1 = v0) (hv1 : 0 ≤ v0 ∧ v0 ≤ 60000) (hfn : 0 ≤ fn ∧ fn < S 127 (-1)) (hf : S 129 fn = f) (hf1 : 0 ≤ f ∧ f < 400) (har : S 136 fn = ar) (hvs : S 23 f = vs) (hvs1 : 0 ≤ vs ∧ vs ≤ 1000) (hpn : S 22 f = pn) (hpn1 : 0 ≤ pn ∧ pn ≤ 1000) (hpr : S 215 16 = 0) (hkd : kd = 5) (hvk : vk = 5) (hvb : vb = fn) (hgk : 0 ≤ gk ∧ gk ≤ 8) : wJ (pe_GA xs) wY0 (mS [217, 218, 138, 139, 141, 142]) (d + 8) t_XL_act ((pe_at t_XL_act.bl 0).getD (0, [])).2 [(0, (2, 158)), (1, (0, x))] [] S (fun o Z => o = .inl none ∧ ((c < 200 ∧ u0 + 1 ≤ 8000 ∧ v0 + vs ≤ 60000 ∧ enQ_215 ar vs (if h - ba - 1 ≤ pn then h - ba - 1 else pn) ba c p f n gk gb 0 cs S Z) ∨ (c = 200 ∧ w_up S 215 16 11 = Z) ∨ (c < 200 ∧ ¬ (u0 + 1 ≤ 8000 ∧ v0 + vs ≤ 60000) ∧ w_up S 215 16 99 = Z))) := by
  obtain ⟨⟨hC, hI⟩, ⟨bc, bc0, bc1⟩, ⟨bp, bp0, bp1⟩, ⟨bh, bh0, bh1, bh2⟩, bl1, bl2, bl3⟩ := hP
  replace bp : S 220 (c - 1) = p := bp
  replace bh : S 216 2 = h := bh
  replace bh2 : h ≤ S 217 (-1) := bh2
  replace bl1 : S 218 (-1) = S 217 (-1) := bl1
  replace bl2 : 64 ≤ S 217 (-1) := bl2
  replace bl3 : S 217 (-1) ≤ 4095 := bl3
  have h35 := hl.2.1
  have h48 := hl.2.2.2
  subst hvb
  refine wa_aload_n (n := 0) rfl ?_
  refine wb_gf4 158 rfl (wy_pr rfl) wt_158 wf_5_3 (v := 47) wl_158_3 ?_
  refine wa_iconst ?_
  refine wb_aald5 47 3 rfl rfl (wy_pr rfl) wt_47 (by rw [show _ = _ from ((cl_47 hC))]; omega) wl_47_3 ?_
  refine wa_iload_n (n := 1) rfl ?_
  refine wb_iald 51 rfl (wy_pr rfl) wt_51 (n := (S 48 (-1))) ((hl.2.2.1 3 (by decide))) (by omega) (by omega) (v := wh) (he51) (fun r1 => ?_)
  refine wa_istore_n (n := 2) rfl ?_
  refine wa_aload_n (n := 0) rfl ?_
  refine wb_gf4 158 rfl (wy_pr rfl) wt_158 wf_5_3 (v := 47) wl_158_3 ?_
  refine wa_iconst ?_
  refine wb_aald5 47 0 rfl rfl (wy_pr rfl) wt_47 (by rw [show _ = _ from ((cl_47 hC))]; omega) wl_47_0 ?_
  refine wa_iload_n (n := 1) rfl ?_
  refine wb_iald 48 rfl (wy_pr rfl) wt_48 (n := (S 48 (-1))) (rfl) (by omega) (by omega) (v := 0) (e48) (fun r2 => ?_)
  refine wa_lw (tb := 0) (w_rg0 (by omega) (by omega)) (q := (27, 1)) (by first | rfl | decide) ⟨_, rfl⟩ ?_
  refine wa_aload_n (n := 0) rfl ?_
  refine wb_gfi 158 rfl (wy_pr rfl) wt_158 wf_5_7 (v := kd) (l7) (fun r3 => ?_)
  refine wa_bipush (w_rg2 (by omega) (by omega)) ?_
  refine wa_icmpne (w_rg0 (by omega) (by omega)) (w_rg0 (by omega) (by omega)) ⟨_, rfl⟩ (fun c4 => ?_) (fun c4 => ?_)
  · skip
    refine wa_aload_n (n := 0) rfl ?_
    refine wa_iload_n (n := 1) rfl ?_
    refine wa_aload_n (n := 0) rfl ?_
    refine wb_gfl 158 rfl (wy_pr rfl) wt_158 wf_5_10 (v := gb) (l10) (fun r5 => ?_)
    refine wb_l2i_r (wb_l2i_id ⟨(by omega), (by omega)⟩) ?_
    refine wa_cv 158 rfl (wy_pr rfl) wt_158 (M2 := mS [217, 218, 138, 139, 141, 142]) rfl at_XL_actOnThing ⟨_, rfl⟩ rfl rfl ⟨trivial, (Or.inr ⟨wy_pr rfl, mS_no rfl⟩), trivial, trivial⟩ trivial (fun _ _ q => q) ?_ (fun _ _ _ q => q)
    refine wa_aload_n (n := 0) rfl ?_
    refine wb_gfi 158 rfl (wy_pr rfl) wt_158 wf_5_7 (v := kd) (l7) (fun r6 => ?_)
    refine wa_iconst ?_
    refine wa_icmpne (w_rg0 (by omega) (by omega)) (w_rg0 (by omega) (by omega)) ⟨_, rfl⟩ (fun c7 => ?_) (fun c7 => ?_)
    · skip
      refine wa_aload_n (n := 0) rfl ?_
      refine wb_gfi 158 rfl (wy_pr rfl) wt_158 wf_5_7 (v := kd) (l7) (fun r8 => ?_)
      refine wa_iconst ?_
      refine wa_icmpeq (w_rg0 (by omega) (by omega)) (w_rg0 (by omega) (by omega)) ⟨_, rfl⟩ (fun c9 => ?_) (fun c9 => ?_)
      · skip
        exact absurd c9 (by omega)
      · skip
        refine wa_aload_n (n := 0) rfl ?_
        refine wb_gfi 158 rfl (wy_pr rfl) wt_158 wf_5_7 (v := kd) (l7) (fun r10 => ?_)
        refine wa_iconst ?_
        refine wa_icmpne (w_rg0 (by omega) (by omega)) (w_rg0 (by omega) (by omega)) ⟨_, rfl⟩ (fun c11 => ?_) (fun c11 => ?_)
        · skip
          refine wa_aload_n (n := 0) rfl ?_
          refine wb_gf4 158 rfl (wy_pr rfl) wt_158 wf_5_3 (v := 47) wl_158_3 ?_
          refine wa_iconst ?_
          refine wb_aald5 47 3 rfl rfl (wy_pr rfl) wt_47 (by rw [show _ = _ from ((cl_47 hC))]; omega) wl_47_3 ?_
          refine wa_iload_n (n := 1) rfl ?_
          refine wb_iald 51 rfl (wy_pr rfl) wt_51 (n := (S 48 (-1))) ((hl.2.2.1 3 (by decide))) (by omega) (by omega) (v := wh) (he51) (fun r12 => ?_)
          refine wa_istore_n (n := 3) rfl ?_
          refine wa_aload_n (n := 0) rfl ?_
          refine wb_gf4 158 rfl (wy_pr rfl) wt_158 wf_5_3 (v := 47) wl_158_3 ?_
          refine wa_iconst ?_
          refine wb_aald5 47 2 rfl rfl (wy_pr rfl) wt_47 (by rw [show _ = _ from ((cl_47 hC))]; omega) wl_47_2 ?_
          refine wa_iload_n (n := 1) rfl ?_
          refine wb_iald 50 rfl (wy_pr rfl) wt_50 (n := (S 48 (-1))) ((hl.2.2.1 2 (by decide))) (by omega) (by omega) (v := e50) (he50) (fun r13 => ?_)
          refine wa_iconst ?_
          refine wa_icmpne (w_rg0 (by omega) (by omega)) (w_rg0 (by omega) (by omega)) ⟨_, rfl⟩ (fun c14 => ?_) (fun c14 => ?_)
          · skip
            refine wa_aload_n (n := 0) rfl ?_
            refine wb_gf4 158 rfl (wy_pr rfl) wt_158 wf_5_3 (v := 47) wl_158_3 ?_
            refine wa_iconst ?_
            refine wb_aald5 47 2 rfl rfl (wy_pr rfl) wt_47 (by rw [show _ = _ from ((cl_47 hC))]; omega) wl_47_2 ?_
            refine wa_iload_n (n := 1) rfl ?_
            refine wb_iald 50 rfl (wy_pr rfl) wt_50 (n := (S 48 (-1))) ((hl.2.2.1 2 (by decide))) (by omega) (by omega) (v := e50) (he50) (fun r15 => ?_)
            refine wa_fall ⟨_, rfl⟩ ?_
            refine wJ_top (show (e50 : Int) = hd by omega) ?_
            refine wa_istore (n := 4) rfl ?_
            refine wa_aload_n (n := 0) rfl ?_
            refine wb_gf4 158 rfl (wy_pr rfl) wt_158 wf_5_0 (v := 72) wl_158_0 ?_
            refine wb_gf4 72 rfl (wy_pr rfl) wt_72 wf_2_2 (v := 126) wl_72_2 ?_
            refine wa_bipush (w_rg2 (by omega) (by omega)) ?_
            refine wb_aald5 126 6 rfl rfl (wy_pr rfl) wt_126 (by rw [show _ = _ from ((cl_126 hC))]; omega) wl_126_6 ?_
            refine wa_iload (n := 4) rfl ?_
            refine wb_iald 133 rfl (wy_pr rfl) wt_133 (n := (S 127 (-1))) ((hth 6 (by decide))) (by omega) (by omega) (v := st) (hst) (fun r16 => ?_)
            refine wa_iload_n (n := 3) rfl ?_
            refine wa_iadd ?_
            refine wa_istore (n := 5) rfl ?_
            refine wa_iload_n (n := 3) rfl ?_
            refine wa_iconst ?_
            refine wa_icmpne (w_rg0 (by omega) (by omega)) (w_rg0 (by omega) (by omega)) ⟨_, rfl⟩ (fun c17 => ?_) (fun c17 => ?_)
            · skip
              refine wa_aload_n (n := 0) rfl ?_
              refine wb_gf4 158 rfl (wy_pr rfl) wt_158 wf_5_0 (v := 72) wl_158_0 ?_
              refine wb_gf4 72 rfl (wy_pr rfl) wt_72 wf_2_6 (v := 140) wl_72_6 ?_
              refine wb_gf4 140 rfl (wy_pr rfl) wt_140 wf_7_0 (v := 141) wl_140_0 ?_
              refine wa_iload (n := 5) rfl ?_
              refine wb_bald 141 rfl (wy_pr rfl) wt_141 (n := (S 141 (-1))) (rfl) (by omega) (by omega) (v := (S 141 (st + wh))) rfl (fun r18 => ?_)
              refine wa_fall ⟨_, rfl⟩ ?_
              have hv7 : (S 141 (st + wh)) = vk := by omega
              refine wJ_top hv7 ?_
              refine wa_istore (n := 6) rfl ?_
              refine wa_iload_n (n := 3) rfl ?_
              refine wa_iconst ?_
              refine wa_icmpne (w_rg0 (by omega) (by omega)) (w_rg0 (by omega) (by omega)) ⟨_, rfl⟩ (fun c19 => ?_) (fun c19 => ?_)
              · skip
                refine wa_aload_n (n := 0) rfl ?_
                refine wb_gf4 158 rfl (wy_pr rfl) wt_158 wf_5_0 (v := 72) wl_158_0 ?_
                refine wb_gf4 72 rfl (wy_pr rfl) wt_72 wf_2_6 (v := 140) wl_72_6 ?_
                refine wb_gf4 140 rfl (wy_pr rfl) wt_140 wf_7_1 (v := 142) wl_140_1 ?_
                refine wa_iload (n := 5) rfl ?_
                refine wb_lald 142 rfl (wy_pr rfl) wt_142 (n := (S 141 (-1))) (hl14) (by omega) (by omega) (v := (S 142 (st + wh))) rfl (fun r20 => ?_)
                refine wa_fall ⟨_, rfl⟩ ?_
                have hv9 : (S 142 (st + wh)) = vb := by omega
                refine wJ_top hv9 ?_
                refine wa_lstore (n := 7) rfl ?_
                refine wa_aload_n (n := 0) rfl ?_
                refine wb_gfi 158 rfl (wy_pr rfl) wt_158 wf_5_7 (v := kd) (l7) (fun r21 => ?_)
                refine wa_iconst ?_
                refine wa_icmpeq (w_rg0 (by omega) (by omega)) (w_rg0 (by omega) (by omega)) ⟨_, rfl⟩ (fun c22 => ?_) (fun c22 => ?_)
                · skip
                  refine wa_iload (n := 6) rfl ?_
                  refine wa_iconst ?_
                  refine wa_icmpeq (w_rg0 (by omega) (by omega)) (w_rg0 (by omega) (by omega)) ⟨_, rfl⟩ (fun c23 => ?_) (fun c23 => ?_)
                  · skip
                    refine wa_aload_n (n := 0) rfl ?_
                    refine wb_gf5 158 rfl (wy_pr rfl) wt_158 wf_5_4 (v := 215) (l4) (fun r24 => ?_)
                    refine wa_lload (n := 7) rfl ?_
                    refine wb_l2i_r (wb_l2i_id ⟨(by omega), (by omega)⟩) ?_
                    refine wa_iconst ?_
                    refine wa_cv 215 rfl (wy_pr rfl) wt_215 (M2 := mS []) rfl at_XK_canEnter ⟨_, rfl⟩ rfl rfl ⟨trivial, trivial, trivial, trivial, trivial, (Or.inr ⟨wy_pr rfl, mS_no rfl⟩), trivial, trivial, trivial⟩ trivial (fun _ _ q => mS_sub (by decide) q) (ce_215 (fn := vb) (n0 := 0) hx1 hC (hth 2 (by decide)) hfn hf hf1 hvs hvs1 bc ⟨by omega, by omega⟩ hu0 hu1 hv0 hv1 (by decide) hpr) (fun oq25 Sq25 hp26 q25 => ?_)
                    rcases q25 with ⟨cc1, cc2, cc3, rfl, rfl⟩ | ⟨cc1, rfl, rfl⟩ | ⟨cc1, cc2, rfl, rfl⟩
                    · skip
                      show wJ _ _ _ _ _ _ _ _ _ _
                      refine wa_ifeq (w_rg0 (by omega) (by omega)) ⟨_, rfl⟩ (fun c27 => ?_) (fun c27 => ?_)
                      · skip
                        exact absurd c27 (by omega)
                      · skip
                        refine wa_aload_n (n := 0) rfl ?_
                        refine wb_gf5 158 rfl (wy_pr rfl) wt_158 wf_5_4 (v := 215) (l4) (fun r28 => ?_)
                        refine wa_lload (n := 7) rfl ?_
                        refine wb_l2i_r (wb_l2i_id ⟨(by omega), (by omega)⟩) ?_
                        refine wa_aload_n (n := 0) rfl ?_
                        refine wb_gfi 158 rfl (wy_pr rfl) wt_158 wf_5_8 (v := ba) (l8) (fun r29 => ?_)
                        refine wa_aload_n (n := 0) rfl ?_
                        refine wb_gfi 158 rfl (wy_pr rfl) wt_158 wf_5_9 (v := gk) (l9) (fun r30 => ?_)
                        refine wa_aload_n (n := 0) rfl ?_
                        refine wb_gfl 158 rfl (wy_pr rfl) wt_158 wf_5_10 (v := gb) (l10) (fun r31 => ?_)
                        refine wa_iconst ?_
                        refine wa_cv 215 rfl (wy_pr rfl) wt_215 (M2 := mS [138, 139, 141, 142]) rfl at_XK_enter ⟨_, rfl⟩ rfl rfl ⟨trivial, trivial, trivial, trivial, trivial, (Or.inr ⟨wy_pr rfl, mS_no rfl⟩), trivial, trivial, trivial⟩ trivial (fun _ _ q => mS_sub (by decide) q) (en_215 (fn := vb) (pl := ba) (kd := gk) (bt := gb) (nw := 0) hC hI h2 hcs hl14 hz14 hcl hm hm1 hm2 hu0 hu1 hv0 hv1 ⟨hth 2 (by decide), hth 9 (by decide)⟩ hfn hf hf1 har hvs hvs1 hpn hpn1 bc ⟨by omega, by omega⟩ bp ⟨by omega, by omega⟩ bh bh2 ⟨bl1, bl3⟩ ⟨by omega, by omega⟩ (by omega) (by omega) ⟨by omega, by omega⟩ ⟨by omega, by omega⟩ (by decide)) (fun oq32 Sq32 hp33 q32 => ?_)
                        rcases q32 with ⟨rfl, hen⟩
                        show wJ _ _ _ _ _ _ _ _ _ _
                        refine wa_fall ⟨_, rfl⟩ ?_
                        refine wa_return rfl ?_
                        show wJ _ _ _ _ _ _ _ _ _ _
                        refine wa_goto ⟨_, rfl⟩ ?_
                        refine wa_return rfl ?_
                        exact ⟨rfl, Or.inl ⟨by omega, by omega, by omega, hen⟩⟩
                    · skip
                      show wJ _ _ _ _ _ _ _ _ _ _
                      refine wa_ifeq (w_rg0 (by omega) (by omega)) ⟨_, rfl⟩ (fun c34 => ?_) (fun c34 => ?_)
                      · skip
                        refine wa_return rfl ?_
                        show wJ _ _ _ _ _ _ _ _ _ _
                        refine wa_goto ⟨_, rfl⟩ ?_
                        refine wa_return rfl ?_
                        exact ⟨rfl, Or.inr (Or.inl ⟨by omega, rfl⟩)⟩
                      · skip
                        exact absurd c34 (by omega)
                    · skip
                      show wJ _ _ _ _ _ _ _ _ _ _
                      refine wa_ifeq (w_rg0 (by omega) (by omega)) ⟨_, rfl⟩ (fun c35 => ?_) (fun c35 => ?_)
                      · skip
                        refine wa_return rfl ?_
                        show wJ _ _ _ _ _ _ _ _ _ _
                        refine wa_goto ⟨_, rfl⟩ ?_
                        refine wa_return rfl ?_
                        exact ⟨rfl, Or.inr (Or.inr ⟨by omega, by omega, rfl⟩)⟩
                      · skip
                        exact absurd c35 (by omega)
                  · skip
                    exact absurd c23 (by omega)
                · skip
                  exact absurd c22 (by omega)
              · skip
                exact absurd c19 (by omega)
            · skip
              refine wa_iconst ?_
              refine wa_goto ⟨_, rfl⟩ ?_
              have hv7 : 0 = vk := by omega
              refine wJ_top hv7 ?_
              refine wa_istore (n := 6) rfl ?_
              refine wa_iload_n (n := 3) rfl ?_
              refine wa_iconst ?_
              refine wa_icmpne (w_rg0 (by omega) (by omega)) (w_rg0 (by omega) (by omega)) ⟨_, rfl⟩ (fun c36 => ?_) (fun c36 => ?_)
              · skip
                exact absurd c36 (by omega)
              · skip
                refine wb_lconst (m := 0) rfl ?_
                refine wa_goto ⟨_, rfl⟩ ?_
                have hv9 : 0 = vb := by omega
                refine wJ_top hv9 ?_
                refine wa_lstore (n := 7) rfl ?_
                refine wa_aload_n (n := 0) rfl ?_
                refine wb_gfi 158 rfl (wy_pr rfl) wt_158 wf_5_7 (v := kd) (l7) (fun r37 => ?_)
                refine wa_iconst ?_
                refine wa_icmpeq (w_rg0 (by omega) (by omega)) (w_rg0 (by omega) (by omega)) ⟨_, rfl⟩ (fun c38 => ?_) (fun c38 => ?_)
                · skip
                  refine wa_iload (n := 6) rfl ?_
                  refine wa_iconst ?_
                  refine wa_icmpeq (w_rg0 (by omega) (by omega)) (w_rg0 (by omega) (by omega)) ⟨_, rfl⟩ (fun c39 => ?_) (fun c39 => ?_)
                  · skip
                    refine wa_aload_n (n := 0) rfl ?_
                    refine wb_gf5 158 rfl (wy_pr rfl) wt_158 wf_5_4 (v := 215) (l4) (fun r40 => ?_)
                    refine wa_lload (n := 7) rfl ?_
                    refine wb_l2i_r (wb_l2i_id ⟨(by omega), (by omega)⟩) ?_
                    refine wa_iconst ?_
                    refine wa_cv 215 rfl (wy_pr rfl) wt_215 (M2 := mS []) rfl at_XK_canEnter ⟨_, rfl⟩ rfl rfl ⟨trivial, trivial, trivial, trivial, trivial, (Or.inr ⟨wy_pr rfl, mS_no rfl⟩), trivial, trivial, trivial⟩ trivial (fun _ _ q => mS_sub (by decide) q) (ce_215 (fn := vb) (n0 := 0) hx1 hC (hth 2 (by decide)) hfn hf hf1 hvs hvs1 bc ⟨by omega, by omega⟩ hu0 hu1 hv0 hv1 (by decide) hpr) (fun oq41 Sq41 hp42 q41 => ?_)
                    rcases q41 with ⟨cc1, cc2, cc3, rfl, rfl⟩ | ⟨cc1, rfl, rfl⟩ | ⟨cc1, cc2, rfl, rfl⟩
                    · skip
                      show wJ _ _ _ _ _ _ _ _ _ _
                      refine wa_ifeq (w_rg0 (by omega) (by omega)) ⟨_, rfl⟩ (fun c43 => ?_) (fun c43 => ?_)
                      · skip
                        exact absurd c43 (by omega)
                      · skip
                        refine wa_aload_n (n := 0) rfl ?_
                        refine wb_gf5 158 rfl (wy_pr rfl) wt_158 wf_5_4 (v := 215) (l4) (fun r44 => ?_)
                        refine wa_lload (n := 7) rfl ?_
                        refine wb_l2i_r (wb_l2i_id ⟨(by omega), (by omega)⟩) ?_
                        refine wa_aload_n (n := 0) rfl ?_
                        refine wb_gfi 158 rfl (wy_pr rfl) wt_158 wf_5_8 (v := ba) (l8) (fun r45 => ?_)
                        refine wa_aload_n (n := 0) rfl ?_
                        refine wb_gfi 158 rfl (wy_pr rfl) wt_158 wf_5_9 (v := gk) (l9) (fun r46 => ?_)
                        refine wa_aload_n (n := 0) rfl ?_
                        refine wb_gfl 158 rfl (wy_pr rfl) wt_158 wf_5_10 (v := gb) (l10) (fun r47 => ?_)
                        refine wa_iconst ?_
                        refine wa_cv 215 rfl (wy_pr rfl) wt_215 (M2 := mS [138, 139, 141, 142]) rfl at_XK_enter ⟨_, rfl⟩ rfl rfl ⟨trivial, trivial, trivial, trivial, trivial, (Or.inr ⟨wy_pr rfl, mS_no rfl⟩), trivial, trivial, trivial⟩ trivial (fun _ _ q => mS_sub (by decide) q) (en_215 (fn := vb) (pl := ba) (kd := gk) (bt := gb) (nw := 0) hC hI h2 hcs hl14 hz14 hcl hm hm1 hm2 hu0 hu1 hv0 hv1 ⟨hth 2 (by decide), hth 9 (by decide)⟩ hfn hf hf1 har hvs hvs1 hpn hpn1 bc ⟨by omega, by omega⟩ bp ⟨by omega, by omega⟩ bh bh2 ⟨bl1, bl3⟩ ⟨by omega, by omega⟩ (by omega) (by omega) ⟨by omega, by omega⟩ ⟨by omega, by omega⟩ (by decide)) (fun oq48 Sq48 hp49 q48 => ?_)
                        rcases q48 with ⟨rfl, hen⟩
                        show wJ _ _ _ _ _ _ _ _ _ _
                        refine wa_fall ⟨_, rfl⟩ ?_
                        refine wa_return rfl ?_
                        show wJ _ _ _ _ _ _ _ _ _ _
                        refine wa_goto ⟨_, rfl⟩ ?_
                        refine wa_return rfl ?_
                        exact ⟨rfl, Or.inl ⟨by omega, by omega, by omega, hen⟩⟩
                    · skip
                      show wJ _ _ _ _ _ _ _ _ _ _
                      refine wa_ifeq (w_rg0 (by omega) (by omega)) ⟨_, rfl⟩ (fun c50 => ?_) (fun c50 => ?_)
                      · skip
                        refine wa_return rfl ?_
                        show wJ _ _ _ _ _ _ _ _ _ _
                        refine wa_goto ⟨_, rfl⟩ ?_
                        refine wa_return rfl ?_
                        exact ⟨rfl, Or.inr (Or.inl ⟨by omega, rfl⟩)⟩
                      · skip
                        exact absurd c50 (by omega)
                    · skip
                      show wJ _ _ _ _ _ _ _ _ _ _
                      refine wa_ifeq (w_rg0 (by omega) (by omega)) ⟨_, rfl⟩ (fun c51 => ?_) (fun c51 => ?_)
                      · skip
                        refine wa_return rfl ?_
                        show wJ _ _ _ _ _ _ _ _ _ _
                        refine wa_goto ⟨_, rfl⟩ ?_
                        refine wa_return rfl ?_
                        exact ⟨rfl, Or.inr (Or.inr ⟨by omega, by omega, rfl⟩)⟩
                      · skip
                        exact absurd c51 (by omega)
                  · skip
                    exact absurd c39 (by omega)
                · skip
                  exact absurd c38 (by omega)
          · skip
            refine wa_iload_n (n := 2) rfl ?_
            refine wa_goto ⟨_, rfl⟩ ?_
            refine wJ_top (show (gb : Int) = hd by omega) ?_
            refine wa_istore (n := 4) rfl ?_
            refine wa_aload_n (n := 0) rfl ?_
            refine wb_gf4 158 rfl (wy_pr rfl) wt_158 wf_5_0 (v := 72) wl_158_0 ?_
            refine wb_gf4 72 rfl (wy_pr rfl) wt_72 wf_2_2 (v := 126) wl_72_2 ?_
            refine wa_bipush (w_rg2 (by omega) (by omega)) ?_
            refine wb_aald5 126 6 rfl rfl (wy_pr rfl) wt_126 (by rw [show _ = _ from ((cl_126 hC))]; omega) wl_126_6 ?_
            refine wa_iload (n := 4) rfl ?_
            refine wb_iald 133 rfl (wy_pr rfl) wt_133 (n := (S 127 (-1))) ((hth 6 (by decide))) (by omega) (by omega) (v := st) (hst) (fun r52 => ?_)
            refine wa_iload_n (n := 3) rfl ?_
            refine wa_iadd ?_
            refine wa_istore (n := 5) rfl ?_
            refine wa_iload_n (n := 3) rfl ?_
            refine wa_iconst ?_
            refine wa_icmpne (w_rg0 (by omega) (by omega)) (w_rg0 (by omega) (by omega)) ⟨_, rfl⟩ (fun c53 => ?_) (fun c53 => ?_)
            · skip
              refine wa_aload_n (n := 0) rfl ?_
              refine wb_gf4 158 rfl (wy_pr rfl) wt_158 wf_5_0 (v := 72) wl_158_0 ?_
              refine wb_gf4 72 rfl (wy_pr rfl) wt_72 wf_2_6 (v := 140) wl_72_6 ?_
              refine wb_gf4 140 rfl (wy_pr rfl) wt_140 wf_7_0 (v := 141) wl_140_0 ?_
              refine wa_iload (n := 5) rfl ?_
              refine wb_bald 141 rfl (wy_pr rfl) wt_141 (n := (S 141 (-1))) (rfl) (by omega) (by omega) (v := (S 141 (st + wh))) rfl (fun r54 => ?_)
              refine wa_fall ⟨_, rfl⟩ ?_
              have hv7 : (S 141 (st + wh)) = vk := by omega
              refine wJ_top hv7 ?_
              refine wa_istore (n := 6) rfl ?_
              refine wa_iload_n (n := 3) rfl ?_
              refine wa_iconst ?_
              refine wa_icmpne (w_rg0 (by omega) (by omega)) (w_rg0 (by omega) (by omega)) ⟨_, rfl⟩ (fun c55 => ?_) (fun c55 => ?_)
              · skip
                refine wa_aload_n (n := 0) rfl ?_
                refine wb_gf4 158 rfl (wy_pr rfl) wt_158 wf_5_0 (v := 72) wl_158_0 ?_
                refine wb_gf4 72 rfl (wy_pr rfl) wt_72 wf_2_6 (v := 140) wl_72_6 ?_
                refine wb_gf4 140 rfl (wy_pr rfl) wt_140 wf_7_1 (v := 142) wl_140_1 ?_
                refine wa_iload (n := 5) rfl ?_
                refine wb_lald 142 rfl (wy_pr rfl) wt_142 (n := (S 141 (-1))) (hl14) (by omega) (by omega) (v := (S 142 (st + wh))) rfl (fun r56 => ?_)
                refine wa_fall ⟨_, rfl⟩ ?_
                have hv9 : (S 142 (st + wh)) = vb := by omega
                refine wJ_top hv9 ?_
                refine wa_lstore (n := 7) rfl ?_
                refine wa_aload_n (n := 0) rfl ?_
                refine wb_gfi 158 rfl (wy_pr rfl) wt_158 wf_5_7 (v := kd) (l7) (fun r57 => ?_)
                refine wa_iconst ?_
                refine wa_icmpeq (w_rg0 (by omega) (by omega)) (w_rg0 (by omega) (by omega)) ⟨_, rfl⟩ (fun c58 => ?_) (fun c58 => ?_)
                · skip
                  refine wa_iload (n := 6) rfl ?_
                  refine wa_iconst ?_
                  refine wa_icmpeq (w_rg0 (by omega) (by omega)) (w_rg0 (by omega) (by omega)) ⟨_, rfl⟩ (fun c59 => ?_) (fun c59 => ?_)
                  · skip
                    refine wa_aload_n (n := 0) rfl ?_
                    refine wb_gf5 158 rfl (wy_pr rfl) wt_158 wf_5_4 (v := 215) (l4) (fun r60 => ?_)
                    refine wa_lload (n := 7) rfl ?_
                    refine wb_l2i_r (wb_l2i_id ⟨(by omega), (by omega)⟩) ?_
                    refine wa_iconst ?_
                    refine wa_cv 215 rfl (wy_pr rfl) wt_215 (M2 := mS []) rfl at_XK_canEnter ⟨_, rfl⟩ rfl rfl ⟨trivial, trivial, trivial, trivial, trivial, (Or.inr ⟨wy_pr rfl, mS_no rfl⟩), trivial, trivial, trivial⟩ trivial (fun _ _ q => mS_sub (by decide) q) (ce_215 (fn := vb) (n0 := 0) hx1 hC (hth 2 (by decide)) hfn hf hf1 hvs hvs1 bc ⟨by omega, by omega⟩ hu0 hu1 hv0 hv1 (by decide) hpr) (fun oq61 Sq61 hp62 q61 => ?_)
                    rcases q61 with ⟨cc1, cc2, cc3, rfl, rfl⟩ | ⟨cc1, rfl, rfl⟩ | ⟨cc1, cc2, rfl, rfl⟩
                    · skip
                      show wJ _ _ _ _ _ _ _ _ _ _
                      refine wa_ifeq (w_rg0 (by omega) (by omega)) ⟨_, rfl⟩ (fun c63 => ?_) (fun c63 => ?_)
                      · skip
                        exact absurd c63 (by omega)
                      · skip
                        refine wa_aload_n (n := 0) rfl ?_
                        refine wb_gf5 158 rfl (wy_pr rfl) wt_158 wf_5_4 (v := 215) (l4) (fun r64 => ?_)
                        refine wa_lload (n := 7) rfl ?_
                        refine wb_l2i_r (wb_l2i_id ⟨(by omega), (by omega)⟩) ?_
                        refine wa_aload_n (n := 0) rfl ?_
                        refine wb_gfi 158 rfl (wy_pr rfl) wt_158 wf_5_8 (v := ba) (l8) (fun r65 => ?_)
                        refine wa_aload_n (n := 0) rfl ?_
                        refine wb_gfi 158 rfl (wy_pr rfl) wt_158 wf_5_9 (v := gk) (l9) (fun r66 => ?_)
                        refine wa_aload_n (n := 0) rfl ?_
                        refine wb_gfl 158 rfl (wy_pr rfl) wt_158 wf_5_10 (v := gb) (l10) (fun r67 => ?_)
                        refine wa_iconst ?_
                        refine wa_cv 215 rfl (wy_pr rfl) wt_215 (M2 := mS [138, 139, 141, 142]) rfl at_XK_enter ⟨_, rfl⟩ rfl rfl ⟨trivial, trivial, trivial, trivial, trivial, (Or.inr ⟨wy_pr rfl, mS_no rfl⟩), trivial, trivial, trivial⟩ trivial (fun _ _ q => mS_sub (by decide) q) (en_215 (fn := vb) (pl := ba) (kd := gk) (bt := gb) (nw := 0) hC hI h2 hcs hl14 hz14 hcl hm hm1 hm2 hu0 hu1 hv0 hv1 ⟨hth 2 (by decide), hth 9 (by decide)⟩ hfn hf hf1 har hvs hvs1 hpn hpn1 bc ⟨by omega, by omega⟩ bp ⟨by omega, by omega⟩ bh bh2 ⟨bl1, bl3⟩ ⟨by omega, by omega⟩ (by omega) (by omega) ⟨by omega, by omega⟩ ⟨by omega, by omega⟩ (by decide)) (fun oq68 Sq68 hp69 q68 => ?_)
                        rcases q68 with ⟨rfl, hen⟩
                        show wJ _ _ _ _ _ _ _ _ _ _
                        refine wa_fall ⟨_, rfl⟩ ?_
                        refine wa_return rfl ?_
                        show wJ _ _ _ _ _ _ _ _ _ _
                        refine wa_goto ⟨_, rfl⟩ ?_
                        refine wa_return rfl ?_
                        exact ⟨rfl, Or.inl ⟨by omega, by omega, by omega, hen⟩⟩
                    · skip
                      show wJ _ _ _ _ _ _ _ _ _ _
                      refine wa_ifeq (w_rg0 (by omega) (by omega)) ⟨_, rfl⟩ (fun c70 => ?_) (fun c70 => ?_)
                      · skip
                        refine wa_return rfl ?_
                        show wJ _ _ _ _ _ _ _ _ _ _
                        refine wa_goto ⟨_, rfl⟩ ?_
                        refine wa_return rfl ?_
                        exact ⟨rfl, Or.inr (Or.inl ⟨by omega, rfl⟩)⟩
                      · skip
                        exact absurd c70 (by omega)
                    · skip
                      show wJ _ _ _ _ _ _ _ _ _ _
                      refine wa_ifeq (w_rg0 (by omega) (by omega)) ⟨_, rfl⟩ (fun c71 => ?_) (fun c71 => ?_)
                      · skip
                        refine wa_return rfl ?_
                        show wJ _ _ _ _ _ _ _ _ _ _
                        refine wa_goto ⟨_, rfl⟩ ?_
                        refine wa_return rfl ?_
                        exact ⟨rfl, Or.inr (Or.inr ⟨by omega, by omega, rfl⟩)⟩
                      · skip
                        exact absurd c71 (by omega)
                  · skip
                    exact absurd c59 (by omega)
                · skip
                  exact absurd c58 (by omega)
              · skip
                exact absurd c55 (by omega)
            · skip
              refine wa_iconst ?_
              refine wa_goto ⟨_, rfl⟩ ?_
              have hv7 : 0 = vk := by omega
              refine wJ_top hv7 ?_
              refine wa_istore (n := 6) rfl ?_
              refine wa_iload_n (n := 3) rfl ?_
              refine wa_iconst ?_
              refine wa_icmpne (w_rg0 (by omega) (by omega)) (w_rg0 (by omega) (by omega)) ⟨_, rfl⟩ (fun c72 => ?_) (fun c72 => ?_)
              · skip
                exact absurd c72 (by omega)
              · skip
                refine wb_lconst (m := 0) rfl ?_
                refine wa_goto ⟨_, rfl⟩ ?_
                have hv9 : 0 = vb := by omega
                refine wJ_top hv9 ?_
                refine wa_lstore (n := 7) rfl ?_
                refine wa_aload_n (n := 0) rfl ?_
                refine wb_gfi 158 rfl (wy_pr rfl) wt_158 wf_5_7 (v := kd) (l7) (fun r73 => ?_)
                refine wa_iconst ?_
                refine wa_icmpeq (w_rg0 (by omega) (by omega)) (w_rg0 (by omega) (by omega)) ⟨_, rfl⟩ (fun c74 => ?_) (fun c74 => ?_)
                · skip
                  refine wa_iload (n := 6) rfl ?_
                  refine wa_iconst ?_
                  refine wa_icmpeq (w_rg0 (by omega) (by omega)) (w_rg0 (by omega) (by omega)) ⟨_, rfl⟩ (fun c75 => ?_) (fun c75 => ?_)
                  · skip
                    refine wa_aload_n (n := 0) rfl ?_
                    refine wb_gf5 158 rfl (wy_pr rfl) wt_158 wf_5_4 (v := 215) (l4) (fun r76 => ?_)
                    refine wa_lload (n := 7) rfl ?_
                    refine wb_l2i_r (wb_l2i_id ⟨(by omega), (by omega)⟩) ?_
                    refine wa_iconst ?_
                    refine wa_cv 215 rfl (wy_pr rfl) wt_215 (M2 := mS []) rfl at_XK_canEnter ⟨_, rfl⟩ rfl rfl ⟨trivial, trivial, trivial, trivial, trivial, (Or.inr ⟨wy_pr rfl, mS_no rfl⟩), trivial, trivial, trivial⟩ trivial (fun _ _ q => mS_sub (by decide) q) (ce_215 (fn := vb) (n0 := 0) hx1 hC (hth 2 (by decide)) hfn hf hf1 hvs hvs1 bc ⟨by omega, by omega⟩ hu0 hu1 hv0 hv1 (by decide) hpr) (fun oq77 Sq77 hp78 q77 => ?_)
                    rcases q77 with ⟨cc1, cc2, cc3, rfl, rfl⟩ | ⟨cc1, rfl, rfl⟩ | ⟨cc1, cc2, rfl, rfl⟩
                    · skip
                      show wJ _ _ _ _ _ _ _ _ _ _
                      refine wa_ifeq (w_rg0 (by omega) (by omega)) ⟨_, rfl⟩ (fun c79 => ?_) (fun c79 => ?_)
                      · skip
                        exact absurd c79 (by omega)
                      · skip
                        refine wa_aload_n (n := 0) rfl ?_
                        refine wb_gf5 158 rfl (wy_pr rfl) wt_158 wf_5_4 (v := 215) (l4) (fun r80 => ?_)
                        refine wa_lload (n := 7) rfl ?_
                        refine wb_l2i_r (wb_l2i_id ⟨(by omega), (by omega)⟩) ?_
                        refine wa_aload_n (n := 0) rfl ?_
                        refine wb_gfi 158 rfl (wy_pr rfl) wt_158 wf_5_8 (v := ba) (l8) (fun r81 => ?_)
                        refine wa_aload_n (n := 0) rfl ?_
                        refine wb_gfi 158 rfl (wy_pr rfl) wt_158 wf_5_9 (v := gk) (l9) (fun r82 => ?_)
                        refine wa_aload_n (n := 0) rfl ?_
                        refine wb_gfl 158 rfl (wy_pr rfl) wt_158 wf_5_10 (v := gb) (l10) (fun r83 => ?_)
                        refine wa_iconst ?_
                        refine wa_cv 215 rfl (wy_pr rfl) wt_215 (M2 := mS [138, 139, 141, 142]) rfl at_XK_enter ⟨_, rfl⟩ rfl rfl ⟨trivial, trivial, trivial, trivial, trivial, (Or.inr ⟨wy_pr rfl, mS_no rfl⟩), trivial, trivial, trivial⟩ trivial (fun _ _ q => mS_sub (by decide) q) (en_215 (fn := vb) (pl := ba) (kd := gk) (bt := gb) (nw := 0) hC hI h2 hcs hl14 hz14 hcl hm hm1 hm2 hu0 hu1 hv0 hv1 ⟨hth 2 (by decide), hth 9 (by decide)⟩ hfn hf hf1 har hvs hvs1 hpn hpn1 bc ⟨by omega, by omega⟩ bp ⟨by omega, by omega⟩ bh bh2 ⟨bl1, bl3⟩ ⟨by omega, by omega⟩ (by omega) (by omega) ⟨by omega, by omega⟩ ⟨by omega, by omega⟩ (by decide)) (fun oq84 Sq84 hp85 q84 => ?_)
                        rcases q84 with ⟨rfl, hen⟩
                        show wJ _ _ _ _ _ _ _ _ _ _
                        refine wa_fall ⟨_, rfl⟩ ?_
                        refine wa_return rfl ?_
                        show wJ _ _ _ _ _ _ _ _ _ _
                        refine wa_goto ⟨_, rfl⟩ ?_
                        refine wa_return rfl ?_
                        exact ⟨rfl, Or.inl ⟨by omega, by omega, by omega, hen⟩⟩
                    · skip
                      show wJ _ _ _ _ _ _ _ _ _ _
                      refine wa_ifeq (w_rg0 (by omega) (by omega)) ⟨_, rfl⟩ (fun c86 => ?_) (fun c86 => ?_)
                      · skip
                        refine wa_return rfl ?_
                        show wJ _ _ _ _ _ _ _ _ _ _
                        refine wa_goto ⟨_, rfl⟩ ?_
                        refine wa_return rfl ?_
                        exact ⟨rfl, Or.inr (Or.inl ⟨by omega, rfl⟩)⟩
                      · skip
                        exact absurd c86 (by omega)
                    · skip
                      show wJ _ _ _ _ _ _ _ _ _ _
                      refine wa_ifeq (w_rg0 (by omega) (by omega)) ⟨_, rfl⟩ (fun c87 => ?_) (fun c87 => ?_)
                      · skip
                        refine wa_return rfl ?_
                        show wJ _ _ _ _ _ _ _ _ _ _
                        refine wa_goto ⟨_, rfl⟩ ?_
                        refine wa_return rfl ?_
                        exact ⟨rfl, Or.inr (Or.inr ⟨by omega, by omega, rfl⟩)⟩
                      · skip
                        exact absurd c87 (by omega)
                  · skip
                    exact absurd c75 (by omega)
                · skip
                  exact absurd c74 (by omega)
        · skip
          exact absurd c11 (by omega)
    · skip
      exact absurd c7 (by omega)
  · skip
    exact absurd c4 (by omega)
set_option maxHeartbeats 4000000 in
theorem xcal_226 {c p h kd ba gk gb x cs n u0 v0 fn f ar vs pn : Int} (hP : xP 226 c p h S) (hl : cSl S) (l4 : S 158 4 = 226) (l5 : S 158 5 = 227) (l7 : S 158 7 = kd) (l8 : S 158 8 = ba) (l9 : S 158 9 = gk) (l10 : S 158 10 = gb) (hx : 0 ≤ x ∧ x < S 48 (-1)) (hba : 0 ≤ ba ∧ ba < h) (hth : ∀ x : Nat, x < 10 → S (127 + x) (-1) = S 127 (-1)) (hn2 : S 127 (-1) ≤ 16383) (hl14 : S 142 (-1) = S 141 (-1)) (hz14 : 16 ≤ S 141 (-1) ∧ S 141 (-1) ≤ 480400) (hx1 : pe_at (pe_GA xs).xs 1 = some (1, tx_1)) (h2 : S 140 2 = cs) (hcs : 0 ≤ cs ∧ cs ≤ S 141 (-1)) (hcl : S 139 (-1) = S 138 (-1)) (hm : S 72 5 = n) (hm1 : 0 ≤ n ∧ n ≤ S 138 (-1)) (hm2 : 64 ≤ S 138 (-1) ∧ S 138 (-1) ≤ 16383) (hu0 : S 150 0 = u0) (hu1 : 0 ≤ u0 ∧ u0 ≤ 8000) (hv0 : S 150 1 = v0) (hv1 : 0 ≤ v0 ∧ v0 ≤ 60000) (hfn : 0 ≤ fn ∧ fn < S 127 (-1)) (hf : S 129 fn = f) (hf1 : 0 ≤ f ∧ f < 400) (har : S 136 fn = ar) (hvs : S 23 f = vs) (hvs1 : 0 ≤ vs ∧ vs ≤ 1000) (hpn : S 22 f = pn) (hpn1 : 0 ≤ pn ∧ pn ≤ 1000) (hpr : S 226 16 = 0) (e48 : S 48 x = 0) (hkd : kd = 4) (hgb : gb = fn) : wJ (pe_GA xs) wY0 (mS [228, 229, 138, 139, 141, 142]) (d + 8) t_XL_act ((pe_at t_XL_act.bl 0).getD (0, [])).2 [(0, (2, 158)), (1, (0, x))] [] S (fun o Z => o = .inl none ∧ ((c < 200 ∧ u0 + 1 ≤ 8000 ∧ v0 + vs ≤ 60000 ∧ enQ_226 ar vs (if h - ba - 1 ≤ pn then h - ba - 1 else pn) ba c p f n 0 0 0 cs S Z) ∨ (c = 200 ∧ w_up S 226 16 11 = Z) ∨ (c < 200 ∧ ¬ (u0 + 1 ≤ 8000 ∧ v0 + vs ≤ 60000) ∧ w_up S 226 16 99 = Z))) := by
  obtain ⟨⟨hC, hI⟩, ⟨bc, bc0, bc1⟩, ⟨bp, bp0, bp1⟩, ⟨bh, bh0, bh1, bh2⟩, bl1, bl2, bl3⟩ := hP
  replace bp : S 231 (c - 1) = p := bp
  replace bh : S 227 2 = h := bh
  replace bh2 : h ≤ S 228 (-1) := bh2
  replace bl1 : S 229 (-1) = S 228 (-1) := bl1
  replace bl2 : 64 ≤ S 228 (-1) := bl2
  replace bl3 : S 228 (-1) ≤ 4095 := bl3
  have h35 := hl.2.1
  have h48 := hl.2.2.2
  subst hgb
  refine wa_aload_n (n := 0) rfl ?_
  refine wb_gf4 158 rfl (wy_pr rfl) wt_158 wf_5_3 (v := 47) wl_158_3 ?_
  refine wa_iconst ?_
  refine wb_aald5 47 3 rfl rfl (wy_pr rfl) wt_47 (by rw [show _ = _ from ((cl_47 hC))]; omega) wl_47_3 ?_
  refine wa_iload_n (n := 1) rfl ?_
  refine wb_iald 51 rfl (wy_pr rfl) wt_51 (n := (S 48 (-1))) ((hl.2.2.1 3 (by decide))) (by omega) (by omega) (v := (S 51 x)) rfl (fun r1 => ?_)
  refine wa_istore_n (n := 2) rfl ?_
  refine wa_aload_n (n := 0) rfl ?_
  refine wb_gf4 158 rfl (wy_pr rfl) wt_158 wf_5_3 (v := 47) wl_158_3 ?_
  refine wa_iconst ?_
  refine wb_aald5 47 0 rfl rfl (wy_pr rfl) wt_47 (by rw [show _ = _ from ((cl_47 hC))]; omega) wl_47_0 ?_
  refine wa_iload_n (n := 1) rfl ?_
  refine wb_iald 48 rfl (wy_pr rfl) wt_48 (n := (S 48 (-1))) (rfl) (by omega) (by omega) (v := 0) (e48) (fun r2 => ?_)
  refine wa_lw (tb := 0) (w_rg0 (by omega) (by omega)) (q := (27, 1)) (by first | rfl | decide) ⟨_, rfl⟩ ?_
  refine wa_aload_n (n := 0) rfl ?_
  refine wb_gfi 158 rfl (wy_pr rfl) wt_158 wf_5_7 (v := kd) (l7) (fun r3 => ?_)
  refine wa_bipush (w_rg2 (by omega) (by omega)) ?_
  refine wa_icmpne (w_rg0 (by omega) (by omega)) (w_rg0 (by omega) (by omega)) ⟨_, rfl⟩ (fun c4 => ?_) (fun c4 => ?_)
  · skip
    refine wa_aload_n (n := 0) rfl ?_
    refine wa_iload_n (n := 1) rfl ?_
    refine wa_aload_n (n := 0) rfl ?_
    refine wb_gfl 158 rfl (wy_pr rfl) wt_158 wf_5_10 (v := gb) (l10) (fun r5 => ?_)
    refine wb_l2i_r (wb_l2i_id ⟨(by omega), (by omega)⟩) ?_
    refine wa_cv 158 rfl (wy_pr rfl) wt_158 (M2 := mS [228, 229, 138, 139, 141, 142]) rfl at_XL_actOnThing ⟨_, rfl⟩ rfl rfl ⟨trivial, (Or.inr ⟨wy_pr rfl, mS_no rfl⟩), trivial, trivial⟩ trivial (fun _ _ q => q) ?_ (fun _ _ _ q => q)
    refine wa_aload_n (n := 0) rfl ?_
    refine wb_gfi 158 rfl (wy_pr rfl) wt_158 wf_5_7 (v := kd) (l7) (fun r6 => ?_)
    refine wa_iconst ?_
    refine wa_icmpne (w_rg0 (by omega) (by omega)) (w_rg0 (by omega) (by omega)) ⟨_, rfl⟩ (fun c7 => ?_) (fun c7 => ?_)
    · skip
      exact absurd c7 (by omega)
    · skip
      refine wa_aload_n (n := 0) rfl ?_
      refine wb_gf5 158 rfl (wy_pr rfl) wt_158 wf_5_4 (v := 226) (l4) (fun r8 => ?_)
      refine wa_iload_n (n := 2) rfl ?_
      refine wa_iconst ?_
      refine wa_cv 226 rfl (wy_pr rfl) wt_226 (M2 := mS []) rfl at_XK_canEnter ⟨_, rfl⟩ rfl rfl ⟨(Or.inr ⟨wy_pr rfl, mS_no rfl⟩), trivial, trivial, trivial⟩ trivial (fun _ _ q => mS_sub (by decide) q) (ce_226 (fn := gb) (n0 := 0) hx1 hC (hth 2 (by decide)) hfn hf hf1 hvs hvs1 bc ⟨by omega, by omega⟩ hu0 hu1 hv0 hv1 (by decide) hpr) (fun oq9 Sq9 hp10 q9 => ?_)
      rcases q9 with ⟨cc1, cc2, cc3, rfl, rfl⟩ | ⟨cc1, rfl, rfl⟩ | ⟨cc1, cc2, rfl, rfl⟩
      · skip
        show wJ _ _ _ _ _ _ _ _ _ _
        refine wa_ifeq (w_rg0 (by omega) (by omega)) ⟨_, rfl⟩ (fun c11 => ?_) (fun c11 => ?_)
        · skip
          exact absurd c11 (by omega)
        · skip
          refine wa_aload_n (n := 0) rfl ?_
          refine wb_gf5 158 rfl (wy_pr rfl) wt_158 wf_5_4 (v := 226) (l4) (fun r12 => ?_)
          refine wa_iload_n (n := 2) rfl ?_
          refine wa_aload_n (n := 0) rfl ?_
          refine wb_gfi 158 rfl (wy_pr rfl) wt_158 wf_5_8 (v := ba) (l8) (fun r13 => ?_)
          refine wa_iconst ?_
          refine wb_lconst (m := 0) rfl ?_
          refine wa_iconst ?_
          refine wa_cv 226 rfl (wy_pr rfl) wt_226 (M2 := mS [138, 139, 141, 142]) rfl at_XK_enter ⟨_, rfl⟩ rfl rfl ⟨(Or.inr ⟨wy_pr rfl, mS_no rfl⟩), trivial, trivial, trivial⟩ trivial (fun _ _ q => mS_sub (by decide) q) (en_226 (fn := gb) (pl := ba) (kd := 0) (bt := 0) (nw := 0) hC hI h2 hcs hl14 hz14 hcl hm hm1 hm2 hu0 hu1 hv0 hv1 ⟨hth 2 (by decide), hth 9 (by decide)⟩ hfn hf hf1 har hvs hvs1 hpn hpn1 bc ⟨by omega, by omega⟩ bp ⟨by omega, by omega⟩ bh bh2 ⟨bl1, bl3⟩ ⟨by omega, by omega⟩ (by omega) (by omega) ⟨by omega, by omega⟩ ⟨by omega, by omega⟩ (by decide)) (fun oq14 Sq14 hp15 q14 => ?_)
          rcases q14 with ⟨rfl, hen⟩
          show wJ _ _ _ _ _ _ _ _ _ _
          refine wa_goto ⟨_, rfl⟩ ?_
          refine wa_return rfl ?_
          show wJ _ _ _ _ _ _ _ _ _ _
          refine wa_goto ⟨_, rfl⟩ ?_
          refine wa_return rfl ?_
          exact ⟨rfl, Or.inl ⟨by omega, by omega, by omega, hen⟩⟩
      · skip
        show wJ _ _ _ _ _ _ _ _ _ _
        refine wa_ifeq (w_rg0 (by omega) (by omega)) ⟨_, rfl⟩ (fun c16 => ?_) (fun c16 => ?_)
        · skip
          refine wa_return rfl ?_
          show wJ _ _ _ _ _ _ _ _ _ _
          refine wa_goto ⟨_, rfl⟩ ?_
          refine wa_return rfl ?_
          exact ⟨rfl, Or.inr (Or.inl ⟨by omega, rfl⟩)⟩
        · skip
          exact absurd c16 (by omega)
      · skip
        show wJ _ _ _ _ _ _ _ _ _ _
        refine wa_ifeq (w_rg0 (by omega) (by omega)) ⟨_, rfl⟩ (fun c17 => ?_) (fun c17 => ?_)
        · skip
          refine wa_return rfl ?_
          show wJ _ _ _ _ _ _ _ _ _ _
          refine wa_goto ⟨_, rfl⟩ ?_
          refine wa_return rfl ?_
          exact ⟨rfl, Or.inr (Or.inr ⟨by omega, by omega, rfl⟩)⟩
        · skip
          exact absurd c17 (by omega)
  · skip
    exact absurd c4 (by omega)
set_option maxHeartbeats 4000000 in
theorem xget_226 {c p h kd ba gk gb x hd st wh vk vb e50  : Int} (hP : xP 226 c p h S) (hl : cSl S) (l4 : S 158 4 = 226) (l5 : S 158 5 = 227) (l7 : S 158 7 = kd) (l8 : S 158 8 = ba) (l9 : S 158 9 = gk) (l10 : S 158 10 = gb) (hx : 0 ≤ x ∧ x < S 48 (-1)) (hba : 0 ≤ ba ∧ ba < h) (hth : ∀ x : Nat, x < 10 → S (127 + x) (-1) = S 127 (-1)) (hn2 : S 127 (-1) ≤ 16383) (hl14 : S 142 (-1) = S 141 (-1)) (hz14 : 16 ≤ S 141 (-1) ∧ S 141 (-1) ≤ 480400) (e48 : S 48 x = 0) (hh0 : 0 ≤ hd ∧ hd < S 127 (-1)) (hhd : (e50 = -1 ∧ hd = gb) ∨ (e50 ≠ -1 ∧ hd = e50)) (he50 : S 50 x = e50) (he51 : S 51 x = wh) (hgb : 0 ≤ gb ∧ gb < S 127 (-1)) (hst : S 133 hd = st) (hwh : (wh = -1 ∧ vk = 0 ∧ vb = 0 ∧ -1000 ≤ st ∧ st ≤ 1000000) ∨ (0 ≤ wh ∧ wh ≤ 100000 ∧ 0 ≤ st ∧ st + wh < S 141 (-1) ∧ S 141 (st + wh) = vk ∧ S 142 (st + wh) = vb)) (hkd : kd = 0 ∨ kd = 2) (hvk : -128 ≤ vk ∧ vk ≤ 127) (hvb : -9223372036854775808 ≤ vb ∧ vb ≤ 9223372036854775807) : wJ (pe_GA xs) wY0 (mS [228, 229]) (d + 8) t_XL_act ((pe_at t_XL_act.bl 0).getD (0, [])).2 [(0, (2, 158)), (1, (0, x))] [] S (fun o Z => o = .inl none ∧ sO 226 h c p (h - ba) vk vb S Z) := by
  obtain ⟨⟨hC, hI⟩, ⟨bc, bc0, bc1⟩, ⟨bp, bp0, bp1⟩, ⟨bh, bh0, bh1, bh2⟩, bl1, bl2, bl3⟩ := hP
  replace bp : S 231 (c - 1) = p := bp
  replace bh : S 227 2 = h := bh
  replace bh2 : h ≤ S 228 (-1) := bh2
  replace bl1 : S 229 (-1) = S 228 (-1) := bl1
  replace bl2 : 64 ≤ S 228 (-1) := bl2
  replace bl3 : S 228 (-1) ≤ 4095 := bl3
  have h35 := hl.2.1
  have h48 := hl.2.2.2
  refine wa_aload_n (n := 0) rfl ?_
  refine wb_gf4 158 rfl (wy_pr rfl) wt_158 wf_5_3 (v := 47) wl_158_3 ?_
  refine wa_iconst ?_
  refine wb_aald5 47 3 rfl rfl (wy_pr rfl) wt_47 (by rw [show _ = _ from ((cl_47 hC))]; omega) wl_47_3 ?_
  refine wa_iload_n (n := 1) rfl ?_
  refine wb_iald 51 rfl (wy_pr rfl) wt_51 (n := (S 48 (-1))) ((hl.2.2.1 3 (by decide))) (by omega) (by omega) (v := wh) (he51) (fun r1 => ?_)
  refine wa_istore_n (n := 2) rfl ?_
  refine wa_aload_n (n := 0) rfl ?_
  refine wb_gf4 158 rfl (wy_pr rfl) wt_158 wf_5_3 (v := 47) wl_158_3 ?_
  refine wa_iconst ?_
  refine wb_aald5 47 0 rfl rfl (wy_pr rfl) wt_47 (by rw [show _ = _ from ((cl_47 hC))]; omega) wl_47_0 ?_
  refine wa_iload_n (n := 1) rfl ?_
  refine wb_iald 48 rfl (wy_pr rfl) wt_48 (n := (S 48 (-1))) (rfl) (by omega) (by omega) (v := 0) (e48) (fun r2 => ?_)
  refine wa_lw (tb := 0) (w_rg0 (by omega) (by omega)) (q := (27, 1)) (by first | rfl | decide) ⟨_, rfl⟩ ?_
  refine wa_aload_n (n := 0) rfl ?_
  refine wb_gfi 158 rfl (wy_pr rfl) wt_158 wf_5_7 (v := kd) (l7) (fun r3 => ?_)
  refine wa_bipush (w_rg2 (by omega) (by omega)) ?_
  refine wa_icmpne (w_rg0 (by omega) (by omega)) (w_rg0 (by omega) (by omega)) ⟨_, rfl⟩ (fun c4 => ?_) (fun c4 => ?_)
  · skip
    refine wa_aload_n (n := 0) rfl ?_
    refine wa_iload_n (n := 1) rfl ?_
    refine wa_aload_n (n := 0) rfl ?_
    refine wb_gfl 158 rfl (wy_pr rfl) wt_158 wf_5_10 (v := gb) (l10) (fun r5 => ?_)
    refine wb_l2i_r (wb_l2i_id ⟨(by omega), (by omega)⟩) ?_
    refine wa_cv 158 rfl (wy_pr rfl) wt_158 (M2 := mS [228, 229]) rfl at_XL_actOnThing ⟨_, rfl⟩ rfl rfl ⟨trivial, (Or.inr ⟨wy_pr rfl, mS_no rfl⟩), trivial, trivial⟩ trivial (fun _ _ q => q) ?_ (fun _ _ _ q => q)
    refine wa_aload_n (n := 0) rfl ?_
    refine wb_gfi 158 rfl (wy_pr rfl) wt_158 wf_5_7 (v := kd) (l7) (fun r6 => ?_)
    refine wa_iconst ?_
    refine wa_icmpne (w_rg0 (by omega) (by omega)) (w_rg0 (by omega) (by omega)) ⟨_, rfl⟩ (fun c7 => ?_) (fun c7 => ?_)
    · skip
      refine wa_aload_n (n := 0) rfl ?_
      refine wb_gfi 158 rfl (wy_pr rfl) wt_158 wf_5_7 (v := kd) (l7) (fun r8 => ?_)
      refine wa_iconst ?_
      refine wa_icmpeq (w_rg0 (by omega) (by omega)) (w_rg0 (by omega) (by omega)) ⟨_, rfl⟩ (fun c9 => ?_) (fun c9 => ?_)
      · skip
        exact absurd c9 (by omega)
      · skip
        refine wa_aload_n (n := 0) rfl ?_
        refine wb_gfi 158 rfl (wy_pr rfl) wt_158 wf_5_7 (v := kd) (l7) (fun r10 => ?_)
        refine wa_iconst ?_
        refine wa_icmpne (w_rg0 (by omega) (by omega)) (w_rg0 (by omega) (by omega)) ⟨_, rfl⟩ (fun c11 => ?_) (fun c11 => ?_)
        · skip
          refine wa_aload_n (n := 0) rfl ?_
          refine wb_gf4 158 rfl (wy_pr rfl) wt_158 wf_5_3 (v := 47) wl_158_3 ?_
          refine wa_iconst ?_
          refine wb_aald5 47 3 rfl rfl (wy_pr rfl) wt_47 (by rw [show _ = _ from ((cl_47 hC))]; omega) wl_47_3 ?_
          refine wa_iload_n (n := 1) rfl ?_
          refine wb_iald 51 rfl (wy_pr rfl) wt_51 (n := (S 48 (-1))) ((hl.2.2.1 3 (by decide))) (by omega) (by omega) (v := wh) (he51) (fun r12 => ?_)
          refine wa_istore_n (n := 3) rfl ?_
          refine wa_aload_n (n := 0) rfl ?_
          refine wb_gf4 158 rfl (wy_pr rfl) wt_158 wf_5_3 (v := 47) wl_158_3 ?_
          refine wa_iconst ?_
          refine wb_aald5 47 2 rfl rfl (wy_pr rfl) wt_47 (by rw [show _ = _ from ((cl_47 hC))]; omega) wl_47_2 ?_
          refine wa_iload_n (n := 1) rfl ?_
          refine wb_iald 50 rfl (wy_pr rfl) wt_50 (n := (S 48 (-1))) ((hl.2.2.1 2 (by decide))) (by omega) (by omega) (v := e50) (he50) (fun r13 => ?_)
          refine wa_iconst ?_
          refine wa_icmpne (w_rg0 (by omega) (by omega)) (w_rg0 (by omega) (by omega)) ⟨_, rfl⟩ (fun c14 => ?_) (fun c14 => ?_)
          · skip
            refine wa_aload_n (n := 0) rfl ?_
            refine wb_gf4 158 rfl (wy_pr rfl) wt_158 wf_5_3 (v := 47) wl_158_3 ?_
            refine wa_iconst ?_
            refine wb_aald5 47 2 rfl rfl (wy_pr rfl) wt_47 (by rw [show _ = _ from ((cl_47 hC))]; omega) wl_47_2 ?_
            refine wa_iload_n (n := 1) rfl ?_
            refine wb_iald 50 rfl (wy_pr rfl) wt_50 (n := (S 48 (-1))) ((hl.2.2.1 2 (by decide))) (by omega) (by omega) (v := e50) (he50) (fun r15 => ?_)
            refine wa_fall ⟨_, rfl⟩ ?_
            refine wJ_top (show (e50 : Int) = hd by omega) ?_
            refine wa_istore (n := 4) rfl ?_
            refine wa_aload_n (n := 0) rfl ?_
            refine wb_gf4 158 rfl (wy_pr rfl) wt_158 wf_5_0 (v := 72) wl_158_0 ?_
            refine wb_gf4 72 rfl (wy_pr rfl) wt_72 wf_2_2 (v := 126) wl_72_2 ?_
            refine wa_bipush (w_rg2 (by omega) (by omega)) ?_
            refine wb_aald5 126 6 rfl rfl (wy_pr rfl) wt_126 (by rw [show _ = _ from ((cl_126 hC))]; omega) wl_126_6 ?_
            refine wa_iload (n := 4) rfl ?_
            refine wb_iald 133 rfl (wy_pr rfl) wt_133 (n := (S 127 (-1))) ((hth 6 (by decide))) (by omega) (by omega) (v := st) (hst) (fun r16 => ?_)
            refine wa_iload_n (n := 3) rfl ?_
            refine wa_iadd ?_
            refine wa_istore (n := 5) rfl ?_
            refine wa_iload_n (n := 3) rfl ?_
            refine wa_iconst ?_
            refine wa_icmpne (w_rg0 (by omega) (by omega)) (w_rg0 (by omega) (by omega)) ⟨_, rfl⟩ (fun c17 => ?_) (fun c17 => ?_)
            · skip
              refine wa_aload_n (n := 0) rfl ?_
              refine wb_gf4 158 rfl (wy_pr rfl) wt_158 wf_5_0 (v := 72) wl_158_0 ?_
              refine wb_gf4 72 rfl (wy_pr rfl) wt_72 wf_2_6 (v := 140) wl_72_6 ?_
              refine wb_gf4 140 rfl (wy_pr rfl) wt_140 wf_7_0 (v := 141) wl_140_0 ?_
              refine wa_iload (n := 5) rfl ?_
              refine wb_bald 141 rfl (wy_pr rfl) wt_141 (n := (S 141 (-1))) (rfl) (by omega) (by omega) (v := (S 141 (st + wh))) rfl (fun r18 => ?_)
              refine wa_fall ⟨_, rfl⟩ ?_
              have hv7 : (S 141 (st + wh)) = vk := by omega
              refine wJ_top hv7 ?_
              refine wa_istore (n := 6) rfl ?_
              refine wa_iload_n (n := 3) rfl ?_
              refine wa_iconst ?_
              refine wa_icmpne (w_rg0 (by omega) (by omega)) (w_rg0 (by omega) (by omega)) ⟨_, rfl⟩ (fun c19 => ?_) (fun c19 => ?_)
              · skip
                refine wa_aload_n (n := 0) rfl ?_
                refine wb_gf4 158 rfl (wy_pr rfl) wt_158 wf_5_0 (v := 72) wl_158_0 ?_
                refine wb_gf4 72 rfl (wy_pr rfl) wt_72 wf_2_6 (v := 140) wl_72_6 ?_
                refine wb_gf4 140 rfl (wy_pr rfl) wt_140 wf_7_1 (v := 142) wl_140_1 ?_
                refine wa_iload (n := 5) rfl ?_
                refine wb_lald 142 rfl (wy_pr rfl) wt_142 (n := (S 141 (-1))) (hl14) (by omega) (by omega) (v := (S 142 (st + wh))) rfl (fun r20 => ?_)
                refine wa_fall ⟨_, rfl⟩ ?_
                have hv9 : (S 142 (st + wh)) = vb := by omega
                refine wJ_top hv9 ?_
                refine wa_lstore (n := 7) rfl ?_
                refine wa_aload_n (n := 0) rfl ?_
                refine wb_gfi 158 rfl (wy_pr rfl) wt_158 wf_5_7 (v := kd) (l7) (fun r21 => ?_)
                refine wa_iconst ?_
                refine wa_icmpeq (w_rg0 (by omega) (by omega)) (w_rg0 (by omega) (by omega)) ⟨_, rfl⟩ (fun c22 => ?_) (fun c22 => ?_)
                · skip
                  exact absurd c22 (by omega)
                · skip
                  refine wa_aload_n (n := 0) rfl ?_
                  refine wa_iload (n := 6) rfl ?_
                  refine wa_lload (n := 7) rfl ?_
                  refine wa_cv 158 rfl (wy_pr rfl) wt_158 (M2 := mS [228, 229]) rfl at_XL_giveValue ⟨_, rfl⟩ rfl rfl ⟨trivial, trivial, trivial, trivial, trivial, (Or.inr ⟨wy_pr rfl, mS_no rfl⟩), trivial, trivial, trivial⟩ trivial (fun _ _ q => mS_sub (by decide) q) (glx_226 (S := S) (k := vk) (v := vb) (h := h) (c := c) (p := p) (ba := ba) hC hI (l4) (l5) (l8) (bc) (bp) (((bl1)).trans ((rfl)).symm) (by have e : S 228 (-1) = S 228 (-1) := (rfl); rw [e]; exact ⟨bl2, bl3⟩) (by have e : S 228 (-1) = S 228 (-1) := (rfl); omega) ⟨by omega, by omega⟩ ⟨by omega, by omega⟩ ⟨by omega, by omega⟩ ⟨by omega, by omega⟩) (fun oq23 Sq23 hp24 q23 => ?_)
                  rcases q23 with ⟨rfl, hgv23⟩
                  show wJ _ _ _ _ _ _ _ _ _ _
                  refine wa_goto ⟨_, rfl⟩ ?_
                  refine wa_return rfl ?_
                  show wJ _ _ _ _ _ _ _ _ _ _
                  refine wa_goto ⟨_, rfl⟩ ?_
                  refine wa_return rfl ?_
                  exact ⟨rfl, hgv23⟩
              · skip
                exact absurd c19 (by omega)
            · skip
              refine wa_iconst ?_
              refine wa_goto ⟨_, rfl⟩ ?_
              have hv7 : 0 = vk := by omega
              refine wJ_top hv7 ?_
              refine wa_istore (n := 6) rfl ?_
              refine wa_iload_n (n := 3) rfl ?_
              refine wa_iconst ?_
              refine wa_icmpne (w_rg0 (by omega) (by omega)) (w_rg0 (by omega) (by omega)) ⟨_, rfl⟩ (fun c25 => ?_) (fun c25 => ?_)
              · skip
                exact absurd c25 (by omega)
              · skip
                refine wb_lconst (m := 0) rfl ?_
                refine wa_goto ⟨_, rfl⟩ ?_
                have hv9 : 0 = vb := by omega
                refine wJ_top hv9 ?_
                refine wa_lstore (n := 7) rfl ?_
                refine wa_aload_n (n := 0) rfl ?_
                refine wb_gfi 158 rfl (wy_pr rfl) wt_158 wf_5_7 (v := kd) (l7) (fun r26 => ?_)
                refine wa_iconst ?_
                refine wa_icmpeq (w_rg0 (by omega) (by omega)) (w_rg0 (by omega) (by omega)) ⟨_, rfl⟩ (fun c27 => ?_) (fun c27 => ?_)
                · skip
                  exact absurd c27 (by omega)
                · skip
                  refine wa_aload_n (n := 0) rfl ?_
                  refine wa_iload (n := 6) rfl ?_
                  refine wa_lload (n := 7) rfl ?_
                  refine wa_cv 158 rfl (wy_pr rfl) wt_158 (M2 := mS [228, 229]) rfl at_XL_giveValue ⟨_, rfl⟩ rfl rfl ⟨trivial, trivial, trivial, trivial, trivial, (Or.inr ⟨wy_pr rfl, mS_no rfl⟩), trivial, trivial, trivial⟩ trivial (fun _ _ q => mS_sub (by decide) q) (glx_226 (S := S) (k := vk) (v := vb) (h := h) (c := c) (p := p) (ba := ba) hC hI (l4) (l5) (l8) (bc) (bp) (((bl1)).trans ((rfl)).symm) (by have e : S 228 (-1) = S 228 (-1) := (rfl); rw [e]; exact ⟨bl2, bl3⟩) (by have e : S 228 (-1) = S 228 (-1) := (rfl); omega) ⟨by omega, by omega⟩ ⟨by omega, by omega⟩ ⟨by omega, by omega⟩ ⟨by omega, by omega⟩) (fun oq28 Sq28 hp29 q28 => ?_)
                  rcases q28 with ⟨rfl, hgv28⟩
                  show wJ _ _ _ _ _ _ _ _ _ _
                  refine wa_goto ⟨_, rfl⟩ ?_
                  refine wa_return rfl ?_
                  show wJ _ _ _ _ _ _ _ _ _ _
                  refine wa_goto ⟨_, rfl⟩ ?_
                  refine wa_return rfl ?_
                  exact ⟨rfl, hgv28⟩
          · skip
            refine wa_iload_n (n := 2) rfl ?_
            refine wa_goto ⟨_, rfl⟩ ?_
            refine wJ_top (show (gb : Int) = hd by omega) ?_
            refine wa_istore (n := 4) rfl ?_
            refine wa_aload_n (n := 0) rfl ?_
            refine wb_gf4 158 rfl (wy_pr rfl) wt_158 wf_5_0 (v := 72) wl_158_0 ?_
            refine wb_gf4 72 rfl (wy_pr rfl) wt_72 wf_2_2 (v := 126) wl_72_2 ?_
            refine wa_bipush (w_rg2 (by omega) (by omega)) ?_
            refine wb_aald5 126 6 rfl rfl (wy_pr rfl) wt_126 (by rw [show _ = _ from ((cl_126 hC))]; omega) wl_126_6 ?_
            refine wa_iload (n := 4) rfl ?_
            refine wb_iald 133 rfl (wy_pr rfl) wt_133 (n := (S 127 (-1))) ((hth 6 (by decide))) (by omega) (by omega) (v := st) (hst) (fun r30 => ?_)
            refine wa_iload_n (n := 3) rfl ?_
            refine wa_iadd ?_
            refine wa_istore (n := 5) rfl ?_
            refine wa_iload_n (n := 3) rfl ?_
            refine wa_iconst ?_
            refine wa_icmpne (w_rg0 (by omega) (by omega)) (w_rg0 (by omega) (by omega)) ⟨_, rfl⟩ (fun c31 => ?_) (fun c31 => ?_)
            · skip
              refine wa_aload_n (n := 0) rfl ?_
              refine wb_gf4 158 rfl (wy_pr rfl) wt_158 wf_5_0 (v := 72) wl_158_0 ?_
              refine wb_gf4 72 rfl (wy_pr rfl) wt_72 wf_2_6 (v := 140) wl_72_6 ?_
              refine wb_gf4 140 rfl (wy_pr rfl) wt_140 wf_7_0 (v := 141) wl_140_0 ?_
              refine wa_iload (n := 5) rfl ?_
              refine wb_bald 141 rfl (wy_pr rfl) wt_141 (n := (S 141 (-1))) (rfl) (by omega) (by omega) (v := (S 141 (st + wh))) rfl (fun r32 => ?_)
              refine wa_fall ⟨_, rfl⟩ ?_
              have hv7 : (S 141 (st + wh)) = vk := by omega
              refine wJ_top hv7 ?_
              refine wa_istore (n := 6) rfl ?_
              refine wa_iload_n (n := 3) rfl ?_
              refine wa_iconst ?_
              refine wa_icmpne (w_rg0 (by omega) (by omega)) (w_rg0 (by omega) (by omega)) ⟨_, rfl⟩ (fun c33 => ?_) (fun c33 => ?_)
              · skip
                refine wa_aload_n (n := 0) rfl ?_
                refine wb_gf4 158 rfl (wy_pr rfl) wt_158 wf_5_0 (v := 72) wl_158_0 ?_
                refine wb_gf4 72 rfl (wy_pr rfl) wt_72 wf_2_6 (v := 140) wl_72_6 ?_
                refine wb_gf4 140 rfl (wy_pr rfl) wt_140 wf_7_1 (v := 142) wl_140_1 ?_
                refine wa_iload (n := 5) rfl ?_
                refine wb_lald 142 rfl (wy_pr rfl) wt_142 (n := (S 141 (-1))) (hl14) (by omega) (by omega) (v := (S 142 (st + wh))) rfl (fun r34 => ?_)
                refine wa_fall ⟨_, rfl⟩ ?_
                have hv9 : (S 142 (st + wh)) = vb := by omega
                refine wJ_top hv9 ?_
                refine wa_lstore (n := 7) rfl ?_
                refine wa_aload_n (n := 0) rfl ?_
                refine wb_gfi 158 rfl (wy_pr rfl) wt_158 wf_5_7 (v := kd) (l7) (fun r35 => ?_)
                refine wa_iconst ?_
                refine wa_icmpeq (w_rg0 (by omega) (by omega)) (w_rg0 (by omega) (by omega)) ⟨_, rfl⟩ (fun c36 => ?_) (fun c36 => ?_)
                · skip
                  exact absurd c36 (by omega)
                · skip
                  refine wa_aload_n (n := 0) rfl ?_
                  refine wa_iload (n := 6) rfl ?_
                  refine wa_lload (n := 7) rfl ?_
                  refine wa_cv 158 rfl (wy_pr rfl) wt_158 (M2 := mS [228, 229]) rfl at_XL_giveValue ⟨_, rfl⟩ rfl rfl ⟨trivial, trivial, trivial, trivial, trivial, (Or.inr ⟨wy_pr rfl, mS_no rfl⟩), trivial, trivial, trivial⟩ trivial (fun _ _ q => mS_sub (by decide) q) (glx_226 (S := S) (k := vk) (v := vb) (h := h) (c := c) (p := p) (ba := ba) hC hI (l4) (l5) (l8) (bc) (bp) (((bl1)).trans ((rfl)).symm) (by have e : S 228 (-1) = S 228 (-1) := (rfl); rw [e]; exact ⟨bl2, bl3⟩) (by have e : S 228 (-1) = S 228 (-1) := (rfl); omega) ⟨by omega, by omega⟩ ⟨by omega, by omega⟩ ⟨by omega, by omega⟩ ⟨by omega, by omega⟩) (fun oq37 Sq37 hp38 q37 => ?_)
                  rcases q37 with ⟨rfl, hgv37⟩
                  show wJ _ _ _ _ _ _ _ _ _ _
                  refine wa_goto ⟨_, rfl⟩ ?_
                  refine wa_return rfl ?_
                  show wJ _ _ _ _ _ _ _ _ _ _
                  refine wa_goto ⟨_, rfl⟩ ?_
                  refine wa_return rfl ?_
                  exact ⟨rfl, hgv37⟩
              · skip
                exact absurd c33 (by omega)
            · skip
              refine wa_iconst ?_
              refine wa_goto ⟨_, rfl⟩ ?_
              have hv7 : 0 = vk := by omega
              refine wJ_top hv7 ?_
              refine wa_istore (n := 6) rfl ?_
              refine wa_iload_n (n := 3) rfl ?_
              refine wa_iconst ?_
              refine wa_icmpne (w_rg0 (by omega) (by omega)) (w_rg0 (by omega) (by omega)) ⟨_, rfl⟩ (fun c39 => ?_) (fun c39 => ?_)
              · skip
                exact absurd c39 (by omega)
              · skip
                refine wb_lconst (m := 0) rfl ?_
                refine wa_goto ⟨_, rfl⟩ ?_
                have hv9 : 0 = vb := by omega
                refine wJ_top hv9 ?_
                refine wa_lstore (n := 7) rfl ?_
                refine wa_aload_n (n := 0) rfl ?_
                refine wb_gfi 158 rfl (wy_pr rfl) wt_158 wf_5_7 (v := kd) (l7) (fun r40 => ?_)
                refine wa_iconst ?_
                refine wa_icmpeq (w_rg0 (by omega) (by omega)) (w_rg0 (by omega) (by omega)) ⟨_, rfl⟩ (fun c41 => ?_) (fun c41 => ?_)
                · skip
                  exact absurd c41 (by omega)
                · skip
                  refine wa_aload_n (n := 0) rfl ?_
                  refine wa_iload (n := 6) rfl ?_
                  refine wa_lload (n := 7) rfl ?_
                  refine wa_cv 158 rfl (wy_pr rfl) wt_158 (M2 := mS [228, 229]) rfl at_XL_giveValue ⟨_, rfl⟩ rfl rfl ⟨trivial, trivial, trivial, trivial, trivial, (Or.inr ⟨wy_pr rfl, mS_no rfl⟩), trivial, trivial, trivial⟩ trivial (fun _ _ q => mS_sub (by decide) q) (glx_226 (S := S) (k := vk) (v := vb) (h := h) (c := c) (p := p) (ba := ba) hC hI (l4) (l5) (l8) (bc) (bp) (((bl1)).trans ((rfl)).symm) (by have e : S 228 (-1) = S 228 (-1) := (rfl); rw [e]; exact ⟨bl2, bl3⟩) (by have e : S 228 (-1) = S 228 (-1) := (rfl); omega) ⟨by omega, by omega⟩ ⟨by omega, by omega⟩ ⟨by omega, by omega⟩ ⟨by omega, by omega⟩) (fun oq42 Sq42 hp43 q42 => ?_)
                  rcases q42 with ⟨rfl, hgv42⟩
                  show wJ _ _ _ _ _ _ _ _ _ _
                  refine wa_goto ⟨_, rfl⟩ ?_
                  refine wa_return rfl ?_
                  show wJ _ _ _ _ _ _ _ _ _ _
                  refine wa_goto ⟨_, rfl⟩ ?_
                  refine wa_return rfl ?_
                  exact ⟨rfl, hgv42⟩
        · skip
          exact absurd c11 (by omega)
    · skip
      exact absurd c7 (by omega)
  · skip
    exact absurd c4 (by omega)
set_option maxHeartbeats 4000000 in
theorem xmtn_226 {c p h kd ba gk gb x hd st wh vk vb e50  : Int} (hP : xP 226 c p h S) (hl : cSl S) (l4 : S 158 4 = 226) (l5 : S 158 5 = 227) (l7 : S 158 7 = kd) (l8 : S 158 8 = ba) (l9 : S 158 9 = gk) (l10 : S 158 10 = gb) (hx : 0 ≤ x ∧ x < S 48 (-1)) (hba : 0 ≤ ba ∧ ba < h) (hth : ∀ x : Nat, x < 10 → S (127 + x) (-1) = S 127 (-1)) (hn2 : S 127 (-1) ≤ 16383) (hl14 : S 142 (-1) = S 141 (-1)) (hz14 : 16 ≤ S 141 (-1) ∧ S 141 (-1) ≤ 480400) (e48 : S 48 x = 0) (hh0 : 0 ≤ hd ∧ hd < S 127 (-1)) (hhd : (e50 = -1 ∧ hd = gb) ∨ (e50 ≠ -1 ∧ hd = e50)) (he50 : S 50 x = e50) (he51 : S 51 x = wh) (hgb : 0 ≤ gb ∧ gb < S 127 (-1)) (hst : S 133 hd = st) (hwh : (wh = -1 ∧ vk = 0 ∧ vb = 0 ∧ -1000 ≤ st ∧ st ≤ 1000000) ∨ (0 ≤ wh ∧ wh ≤ 100000 ∧ 0 ≤ st ∧ st + wh < S 141 (-1) ∧ S 141 (st + wh) = vk ∧ S 142 (st + wh) = vb)) (hkd : kd = 5) (hvk : vk ≠ 5 ∧ -128 ≤ vk ∧ vk ≤ 127) : wJ (pe_GA xs) wY0 (mS [228, 229]) (d + 8) t_XL_act ((pe_at t_XL_act.bl 0).getD (0, [])).2 [(0, (2, 158)), (1, (0, x))] [] S (fun o Z => o = .inl none ∧ w_up S 226 16 (if vk = 0 then 4 else 5) = Z) := by
  obtain ⟨⟨hC, hI⟩, ⟨bc, bc0, bc1⟩, ⟨bp, bp0, bp1⟩, ⟨bh, bh0, bh1, bh2⟩, bl1, bl2, bl3⟩ := hP
  replace bp : S 231 (c - 1) = p := bp
  replace bh : S 227 2 = h := bh
  replace bh2 : h ≤ S 228 (-1) := bh2
  replace bl1 : S 229 (-1) = S 228 (-1) := bl1
  replace bl2 : 64 ≤ S 228 (-1) := bl2
  replace bl3 : S 228 (-1) ≤ 4095 := bl3
  have h35 := hl.2.1
  have h48 := hl.2.2.2
  refine wa_aload_n (n := 0) rfl ?_
  refine wb_gf4 158 rfl (wy_pr rfl) wt_158 wf_5_3 (v := 47) wl_158_3 ?_
  refine wa_iconst ?_
  refine wb_aald5 47 3 rfl rfl (wy_pr rfl) wt_47 (by rw [show _ = _ from ((cl_47 hC))]; omega) wl_47_3 ?_
  refine wa_iload_n (n := 1) rfl ?_
  refine wb_iald 51 rfl (wy_pr rfl) wt_51 (n := (S 48 (-1))) ((hl.2.2.1 3 (by decide))) (by omega) (by omega) (v := wh) (he51) (fun r1 => ?_)
  refine wa_istore_n (n := 2) rfl ?_
  refine wa_aload_n (n := 0) rfl ?_
  refine wb_gf4 158 rfl (wy_pr rfl) wt_158 wf_5_3 (v := 47) wl_158_3 ?_
  refine wa_iconst ?_
  refine wb_aald5 47 0 rfl rfl (wy_pr rfl) wt_47 (by rw [show _ = _ from ((cl_47 hC))]; omega) wl_47_0 ?_
  refine wa_iload_n (n := 1) rfl ?_
  refine wb_iald 48 rfl (wy_pr rfl) wt_48 (n := (S 48 (-1))) (rfl) (by omega) (by omega) (v := 0) (e48) (fun r2 => ?_)
  refine wa_lw (tb := 0) (w_rg0 (by omega) (by omega)) (q := (27, 1)) (by first | rfl | decide) ⟨_, rfl⟩ ?_
  refine wa_aload_n (n := 0) rfl ?_
  refine wb_gfi 158 rfl (wy_pr rfl) wt_158 wf_5_7 (v := kd) (l7) (fun r3 => ?_)
  refine wa_bipush (w_rg2 (by omega) (by omega)) ?_
  refine wa_icmpne (w_rg0 (by omega) (by omega)) (w_rg0 (by omega) (by omega)) ⟨_, rfl⟩ (fun c4 => ?_) (fun c4 => ?_)
  · skip
    refine wa_aload_n (n := 0) rfl ?_
    refine wa_iload_n (n := 1) rfl ?_
    refine wa_aload_n (n := 0) rfl ?_
    refine wb_gfl 158 rfl (wy_pr rfl) wt_158 wf_5_10 (v := gb) (l10) (fun r5 => ?_)
    refine wb_l2i_r (wb_l2i_id ⟨(by omega), (by omega)⟩) ?_
    refine wa_cv 158 rfl (wy_pr rfl) wt_158 (M2 := mS [228, 229]) rfl at_XL_actOnThing ⟨_, rfl⟩ rfl rfl ⟨trivial, (Or.inr ⟨wy_pr rfl, mS_no rfl⟩), trivial, trivial⟩ trivial (fun _ _ q => q) ?_ (fun _ _ _ q => q)
    refine wa_aload_n (n := 0) rfl ?_
    refine wb_gfi 158 rfl (wy_pr rfl) wt_158 wf_5_7 (v := kd) (l7) (fun r6 => ?_)
    refine wa_iconst ?_
    refine wa_icmpne (w_rg0 (by omega) (by omega)) (w_rg0 (by omega) (by omega)) ⟨_, rfl⟩ (fun c7 => ?_) (fun c7 => ?_)
    · skip
      refine wa_aload_n (n := 0) rfl ?_
      refine wb_gfi 158 rfl (wy_pr rfl) wt_158 wf_5_7 (v := kd) (l7) (fun r8 => ?_)
      refine wa_iconst ?_
      refine wa_icmpeq (w_rg0 (by omega) (by omega)) (w_rg0 (by omega) (by omega)) ⟨_, rfl⟩ (fun c9 => ?_) (fun c9 => ?_)
      · skip
        exact absurd c9 (by omega)
      · skip
        refine wa_aload_n (n := 0) rfl ?_
        refine wb_gfi 158 rfl (wy_pr rfl) wt_158 wf_5_7 (v := kd) (l7) (fun r10 => ?_)
        refine wa_iconst ?_
        refine wa_icmpne (w_rg0 (by omega) (by omega)) (w_rg0 (by omega) (by omega)) ⟨_, rfl⟩ (fun c11 => ?_) (fun c11 => ?_)
        · skip
          refine wa_aload_n (n := 0) rfl ?_
          refine wb_gf4 158 rfl (wy_pr rfl) wt_158 wf_5_3 (v := 47) wl_158_3 ?_
          refine wa_iconst ?_
          refine wb_aald5 47 3 rfl rfl (wy_pr rfl) wt_47 (by rw [show _ = _ from ((cl_47 hC))]; omega) wl_47_3 ?_
          refine wa_iload_n (n := 1) rfl ?_
          refine wb_iald 51 rfl (wy_pr rfl) wt_51 (n := (S 48 (-1))) ((hl.2.2.1 3 (by decide))) (by omega) (by omega) (v := wh) (he51) (fun r12 => ?_)
          refine wa_istore_n (n := 3) rfl ?_
          refine wa_aload_n (n := 0) rfl ?_
          refine wb_gf4 158 rfl (wy_pr rfl) wt_158 wf_5_3 (v := 47) wl_158_3 ?_
          refine wa_iconst ?_
          refine wb_aald5 47 2 rfl rfl (wy_pr rfl) wt_47 (by rw [show _ = _ from ((cl_47 hC))]; omega) wl_47_2 ?_
          refine wa_iload_n (n := 1) rfl ?_
          refine wb_iald 50 rfl (wy_pr rfl) wt_50 (n := (S 48 (-1))) ((hl.2.2.1 2 (by decide))) (by omega) (by omega) (v := e50) (he50) (fun r13 => ?_)
          refine wa_iconst ?_
          refine wa_icmpne (w_rg0 (by omega) (by omega)) (w_rg0 (by omega) (by omega)) ⟨_, rfl⟩ (fun c14 => ?_) (fun c14 => ?_)
          · skip
            refine wa_aload_n (n := 0) rfl ?_
            refine wb_gf4 158 rfl (wy_pr rfl) wt_158 wf_5_3 (v := 47) wl_158_3 ?_
            refine wa_iconst ?_
            refine wb_aald5 47 2 rfl rfl (wy_pr rfl) wt_47 (by rw [show _ = _ from ((cl_47 hC))]; omega) wl_47_2 ?_
            refine wa_iload_n (n := 1) rfl ?_
            refine wb_iald 50 rfl (wy_pr rfl) wt_50 (n := (S 48 (-1))) ((hl.2.2.1 2 (by decide))) (by omega) (by omega) (v := e50) (he50) (fun r15 => ?_)
            refine wa_fall ⟨_, rfl⟩ ?_
            refine wJ_top (show (e50 : Int) = hd by omega) ?_
            refine wa_istore (n := 4) rfl ?_
            refine wa_aload_n (n := 0) rfl ?_
            refine wb_gf4 158 rfl (wy_pr rfl) wt_158 wf_5_0 (v := 72) wl_158_0 ?_
            refine wb_gf4 72 rfl (wy_pr rfl) wt_72 wf_2_2 (v := 126) wl_72_2 ?_
            refine wa_bipush (w_rg2 (by omega) (by omega)) ?_
            refine wb_aald5 126 6 rfl rfl (wy_pr rfl) wt_126 (by rw [show _ = _ from ((cl_126 hC))]; omega) wl_126_6 ?_
            refine wa_iload (n := 4) rfl ?_
            refine wb_iald 133 rfl (wy_pr rfl) wt_133 (n := (S 127 (-1))) ((hth 6 (by decide))) (by omega) (by omega) (v := st) (hst) (fun r16 => ?_)
            refine wa_iload_n (n := 3) rfl ?_
            refine wa_iadd ?_
            refine wa_istore (n := 5) rfl ?_
            refine wa_iload_n (n := 3) rfl ?_
            refine wa_iconst ?_
            refine wa_icmpne (w_rg0 (by omega) (by omega)) (w_rg0 (by omega) (by omega)) ⟨_, rfl⟩ (fun c17 => ?_) (fun c17 => ?_)
            · skip
              refine wa_aload_n (n := 0) rfl ?_
              refine wb_gf4 158 rfl (wy_pr rfl) wt_158 wf_5_0 (v := 72) wl_158_0 ?_
              refine wb_gf4 72 rfl (wy_pr rfl) wt_72 wf_2_6 (v := 140) wl_72_6 ?_
              refine wb_gf4 140 rfl (wy_pr rfl) wt_140 wf_7_0 (v := 141) wl_140_0 ?_
              refine wa_iload (n := 5) rfl ?_
              refine wb_bald 141 rfl (wy_pr rfl) wt_141 (n := (S 141 (-1))) (rfl) (by omega) (by omega) (v := (S 141 (st + wh))) rfl (fun r18 => ?_)
              refine wa_fall ⟨_, rfl⟩ ?_
              have hv7 : (S 141 (st + wh)) = vk := by omega
              refine wJ_top hv7 ?_
              refine wa_istore (n := 6) rfl ?_
              refine wa_iload_n (n := 3) rfl ?_
              refine wa_iconst ?_
              refine wa_icmpne (w_rg0 (by omega) (by omega)) (w_rg0 (by omega) (by omega)) ⟨_, rfl⟩ (fun c19 => ?_) (fun c19 => ?_)
              · skip
                refine wa_aload_n (n := 0) rfl ?_
                refine wb_gf4 158 rfl (wy_pr rfl) wt_158 wf_5_0 (v := 72) wl_158_0 ?_
                refine wb_gf4 72 rfl (wy_pr rfl) wt_72 wf_2_6 (v := 140) wl_72_6 ?_
                refine wb_gf4 140 rfl (wy_pr rfl) wt_140 wf_7_1 (v := 142) wl_140_1 ?_
                refine wa_iload (n := 5) rfl ?_
                refine wb_lald 142 rfl (wy_pr rfl) wt_142 (n := (S 141 (-1))) (hl14) (by omega) (by omega) (v := (S 142 (st + wh))) rfl (fun r20 => ?_)
                refine wa_fall ⟨_, rfl⟩ ?_
                have hv9 : (S 142 (st + wh)) = vb := by omega
                refine wJ_top hv9 ?_
                refine wa_lstore (n := 7) rfl ?_
                refine wa_aload_n (n := 0) rfl ?_
                refine wb_gfi 158 rfl (wy_pr rfl) wt_158 wf_5_7 (v := kd) (l7) (fun r21 => ?_)
                refine wa_iconst ?_
                refine wa_icmpeq (w_rg0 (by omega) (by omega)) (w_rg0 (by omega) (by omega)) ⟨_, rfl⟩ (fun c22 => ?_) (fun c22 => ?_)
                · skip
                  refine wa_iload (n := 6) rfl ?_
                  refine wa_iconst ?_
                  refine wa_icmpeq (w_rg0 (by omega) (by omega)) (w_rg0 (by omega) (by omega)) ⟨_, rfl⟩ (fun c23 => ?_) (fun c23 => ?_)
                  · skip
                    exact absurd c23 (by omega)
                  · skip
                    refine wa_aload_n (n := 0) rfl ?_
                    refine wb_gf5 158 rfl (wy_pr rfl) wt_158 wf_5_4 (v := 226) (l4) (fun r24 => ?_)
                    refine wa_iload (n := 6) rfl ?_
                    refine wa_ifne (w_rg0 (by omega) (by omega)) ⟨_, rfl⟩ (fun c25 => ?_) (fun c25 => ?_)
                    · skip
                      refine wa_iconst ?_
                      refine wa_fall ⟨_, rfl⟩ ?_
                      refine wb_pfi 226 rfl (wy_pr rfl) wt_226 wf_8_16 (n := 16) rfl ⟨(by omega), (by omega)⟩ ?_
                      refine wa_goto ⟨_, rfl⟩ ?_
                      refine wa_return rfl ?_
                      show wJ _ _ _ _ _ _ _ _ _ _
                      refine wa_goto ⟨_, rfl⟩ ?_
                      refine wa_return rfl ?_
                      have ev : (if vk = 0 then 4 else 5 : Int) = 5 := by first | exact if_pos (by omega) | exact if_neg (by omega)
                      exact ⟨rfl, by rw [ev]⟩
                    · skip
                      refine wa_iconst ?_
                      refine wa_goto ⟨_, rfl⟩ ?_
                      refine wb_pfi 226 rfl (wy_pr rfl) wt_226 wf_8_16 (n := 16) rfl ⟨(by omega), (by omega)⟩ ?_
                      refine wa_goto ⟨_, rfl⟩ ?_
                      refine wa_return rfl ?_
                      show wJ _ _ _ _ _ _ _ _ _ _
                      refine wa_goto ⟨_, rfl⟩ ?_
                      refine wa_return rfl ?_
                      have ev : (if vk = 0 then 4 else 5 : Int) = 4 := by first | exact if_pos (by omega) | exact if_neg (by omega)
                      exact ⟨rfl, by rw [ev]⟩
                · skip
                  exact absurd c22 (by omega)
              · skip
                exact absurd c19 (by omega)
            · skip
              refine wa_iconst ?_
              refine wa_goto ⟨_, rfl⟩ ?_
              have hv7 : 0 = vk := by omega
              refine wJ_top hv7 ?_
              refine wa_istore (n := 6) rfl ?_
              refine wa_iload_n (n := 3) rfl ?_
              refine wa_iconst ?_
              refine wa_icmpne (w_rg0 (by omega) (by omega)) (w_rg0 (by omega) (by omega)) ⟨_, rfl⟩ (fun c26 => ?_) (fun c26 => ?_)
              · skip
                exact absurd c26 (by omega)
              · skip
                refine wb_lconst (m := 0) rfl ?_
                refine wa_goto ⟨_, rfl⟩ ?_
                have hv9 : 0 = vb := by omega
                refine wJ_top hv9 ?_
                refine wa_lstore (n := 7) rfl ?_
                refine wa_aload_n (n := 0) rfl ?_
                refine wb_gfi 158 rfl (wy_pr rfl) wt_158 wf_5_7 (v := kd) (l7) (fun r27 => ?_)
                refine wa_iconst ?_
                refine wa_icmpeq (w_rg0 (by omega) (by omega)) (w_rg0 (by omega) (by omega)) ⟨_, rfl⟩ (fun c28 => ?_) (fun c28 => ?_)
                · skip
                  refine wa_iload (n := 6) rfl ?_
                  refine wa_iconst ?_
                  refine wa_icmpeq (w_rg0 (by omega) (by omega)) (w_rg0 (by omega) (by omega)) ⟨_, rfl⟩ (fun c29 => ?_) (fun c29 => ?_)
                  · skip
                    exact absurd c29 (by omega)
                  · skip
                    refine wa_aload_n (n := 0) rfl ?_
                    refine wb_gf5 158 rfl (wy_pr rfl) wt_158 wf_5_4 (v := 226) (l4) (fun r30 => ?_)
                    refine wa_iload (n := 6) rfl ?_
                    refine wa_ifne (w_rg0 (by omega) (by omega)) ⟨_, rfl⟩ (fun c31 => ?_) (fun c31 => ?_)
                    · skip
                      refine wa_iconst ?_
                      refine wa_fall ⟨_, rfl⟩ ?_
                      refine wb_pfi 226 rfl (wy_pr rfl) wt_226 wf_8_16 (n := 16) rfl ⟨(by omega), (by omega)⟩ ?_
                      refine wa_goto ⟨_, rfl⟩ ?_
                      refine wa_return rfl ?_
                      show wJ _ _ _ _ _ _ _ _ _ _
                      refine wa_goto ⟨_, rfl⟩ ?_
                      refine wa_return rfl ?_
                      have ev : (if vk = 0 then 4 else 5 : Int) = 5 := by first | exact if_pos (by omega) | exact if_neg (by omega)
                      exact ⟨rfl, by rw [ev]⟩
                    · skip
                      refine wa_iconst ?_
                      refine wa_goto ⟨_, rfl⟩ ?_
                      refine wb_pfi 226 rfl (wy_pr rfl) wt_226 wf_8_16 (n := 16) rfl ⟨(by omega), (by omega)⟩ ?_
                      refine wa_goto ⟨_, rfl⟩ ?_
                      refine wa_return rfl ?_
                      show wJ _ _ _ _ _ _ _ _ _ _
                      refine wa_goto ⟨_, rfl⟩ ?_
                      refine wa_return rfl ?_
                      have ev : (if vk = 0 then 4 else 5 : Int) = 4 := by first | exact if_pos (by omega) | exact if_neg (by omega)
                      exact ⟨rfl, by rw [ev]⟩
                · skip
                  exact absurd c28 (by omega)
          · skip
            refine wa_iload_n (n := 2) rfl ?_
            refine wa_goto ⟨_, rfl⟩ ?_
            refine wJ_top (show (gb : Int) = hd by omega) ?_
            refine wa_istore (n := 4) rfl ?_
            refine wa_aload_n (n := 0) rfl ?_
            refine wb_gf4 158 rfl (wy_pr rfl) wt_158 wf_5_0 (v := 72) wl_158_0 ?_
            refine wb_gf4 72 rfl (wy_pr rfl) wt_72 wf_2_2 (v := 126) wl_72_2 ?_
            refine wa_bipush (w_rg2 (by omega) (by omega)) ?_
            refine wb_aald5 126 6 rfl rfl (wy_pr rfl) wt_126 (by rw [show _ = _ from ((cl_126 hC))]; omega) wl_126_6 ?_
            refine wa_iload (n := 4) rfl ?_
            refine wb_iald 133 rfl (wy_pr rfl) wt_133 (n := (S 127 (-1))) ((hth 6 (by decide))) (by omega) (by omega) (v := st) (hst) (fun r32 => ?_)
            refine wa_iload_n (n := 3) rfl ?_
            refine wa_iadd ?_
            refine wa_istore (n := 5) rfl ?_
            refine wa_iload_n (n := 3) rfl ?_
            refine wa_iconst ?_
            refine wa_icmpne (w_rg0 (by omega) (by omega)) (w_rg0 (by omega) (by omega)) ⟨_, rfl⟩ (fun c33 => ?_) (fun c33 => ?_)
            · skip
              refine wa_aload_n (n := 0) rfl ?_
              refine wb_gf4 158 rfl (wy_pr rfl) wt_158 wf_5_0 (v := 72) wl_158_0 ?_
              refine wb_gf4 72 rfl (wy_pr rfl) wt_72 wf_2_6 (v := 140) wl_72_6 ?_
              refine wb_gf4 140 rfl (wy_pr rfl) wt_140 wf_7_0 (v := 141) wl_140_0 ?_
              refine wa_iload (n := 5) rfl ?_
              refine wb_bald 141 rfl (wy_pr rfl) wt_141 (n := (S 141 (-1))) (rfl) (by omega) (by omega) (v := (S 141 (st + wh))) rfl (fun r34 => ?_)
              refine wa_fall ⟨_, rfl⟩ ?_
              have hv7 : (S 141 (st + wh)) = vk := by omega
              refine wJ_top hv7 ?_
              refine wa_istore (n := 6) rfl ?_
              refine wa_iload_n (n := 3) rfl ?_
              refine wa_iconst ?_
              refine wa_icmpne (w_rg0 (by omega) (by omega)) (w_rg0 (by omega) (by omega)) ⟨_, rfl⟩ (fun c35 => ?_) (fun c35 => ?_)
              · skip
                refine wa_aload_n (n := 0) rfl ?_
                refine wb_gf4 158 rfl (wy_pr rfl) wt_158 wf_5_0 (v := 72) wl_158_0 ?_
                refine wb_gf4 72 rfl (wy_pr rfl) wt_72 wf_2_6 (v := 140) wl_72_6 ?_
                refine wb_gf4 140 rfl (wy_pr rfl) wt_140 wf_7_1 (v := 142) wl_140_1 ?_
                refine wa_iload (n := 5) rfl ?_
                refine wb_lald 142 rfl (wy_pr rfl) wt_142 (n := (S 141 (-1))) (hl14) (by omega) (by omega) (v := (S 142 (st + wh))) rfl (fun r36 => ?_)
                refine wa_fall ⟨_, rfl⟩ ?_
                have hv9 : (S 142 (st + wh)) = vb := by omega
                refine wJ_top hv9 ?_
                refine wa_lstore (n := 7) rfl ?_
                refine wa_aload_n (n := 0) rfl ?_
                refine wb_gfi 158 rfl (wy_pr rfl) wt_158 wf_5_7 (v := kd) (l7) (fun r37 => ?_)
                refine wa_iconst ?_
                refine wa_icmpeq (w_rg0 (by omega) (by omega)) (w_rg0 (by omega) (by omega)) ⟨_, rfl⟩ (fun c38 => ?_) (fun c38 => ?_)
                · skip
                  refine wa_iload (n := 6) rfl ?_
                  refine wa_iconst ?_
                  refine wa_icmpeq (w_rg0 (by omega) (by omega)) (w_rg0 (by omega) (by omega)) ⟨_, rfl⟩ (fun c39 => ?_) (fun c39 => ?_)
                  · skip
                    exact absurd c39 (by omega)
                  · skip
                    refine wa_aload_n (n := 0) rfl ?_
                    refine wb_gf5 158 rfl (wy_pr rfl) wt_158 wf_5_4 (v := 226) (l4) (fun r40 => ?_)
                    refine wa_iload (n := 6) rfl ?_
                    refine wa_ifne (w_rg0 (by omega) (by omega)) ⟨_, rfl⟩ (fun c41 => ?_) (fun c41 => ?_)
                    · skip
                      refine wa_iconst ?_
                      refine wa_fall ⟨_, rfl⟩ ?_
                      refine wb_pfi 226 rfl (wy_pr rfl) wt_226 wf_8_16 (n := 16) rfl ⟨(by omega), (by omega)⟩ ?_
                      refine wa_goto ⟨_, rfl⟩ ?_
                      refine wa_return rfl ?_
                      show wJ _ _ _ _ _ _ _ _ _ _
                      refine wa_goto ⟨_, rfl⟩ ?_
                      refine wa_return rfl ?_
                      have ev : (if vk = 0 then 4 else 5 : Int) = 5 := by first | exact if_pos (by omega) | exact if_neg (by omega)
                      exact ⟨rfl, by rw [ev]⟩
                    · skip
                      refine wa_iconst ?_
                      refine wa_goto ⟨_, rfl⟩ ?_
                      refine wb_pfi 226 rfl (wy_pr rfl) wt_226 wf_8_16 (n := 16) rfl ⟨(by omega), (by omega)⟩ ?_
                      refine wa_goto ⟨_, rfl⟩ ?_
                      refine wa_return rfl ?_
                      show wJ _ _ _ _ _ _ _ _ _ _
                      refine wa_goto ⟨_, rfl⟩ ?_
                      refine wa_return rfl ?_
                      have ev : (if vk = 0 then 4 else 5 : Int) = 4 := by first | exact if_pos (by omega) | exact if_neg (by omega)
                      exact ⟨rfl, by rw [ev]⟩
                · skip
                  exact absurd c38 (by omega)
              · skip
                exact absurd c35 (by omega)
            · skip
              refine wa_iconst ?_
              refine wa_goto ⟨_, rfl⟩ ?_
              have hv7 : 0 = vk := by omega
              refine wJ_top hv7 ?_
              refine wa_istore (n := 6) rfl ?_
              refine wa_iload_n (n := 3) rfl ?_
              refine wa_iconst ?_
              refine wa_icmpne (w_rg0 (by omega) (by omega)) (w_rg0 (by omega) (by omega)) ⟨_, rfl⟩ (fun c42 => ?_) (fun c42 => ?_)
              · skip
                exact absurd c42 (by omega)
              · skip
                refine wb_lconst (m := 0) rfl ?_
                refine wa_goto ⟨_, rfl⟩ ?_
                have hv9 : 0 = vb := by omega
                refine wJ_top hv9 ?_
                refine wa_lstore (n := 7) rfl ?_
                refine wa_aload_n (n := 0) rfl ?_
                refine wb_gfi 158 rfl (wy_pr rfl) wt_158 wf_5_7 (v := kd) (l7) (fun r43 => ?_)
                refine wa_iconst ?_
                refine wa_icmpeq (w_rg0 (by omega) (by omega)) (w_rg0 (by omega) (by omega)) ⟨_, rfl⟩ (fun c44 => ?_) (fun c44 => ?_)
                · skip
                  refine wa_iload (n := 6) rfl ?_
                  refine wa_iconst ?_
                  refine wa_icmpeq (w_rg0 (by omega) (by omega)) (w_rg0 (by omega) (by omega)) ⟨_, rfl⟩ (fun c45 => ?_) (fun c45 => ?_)
                  · skip
                    exact absurd c45 (by omega)
                  · skip
                    refine wa_aload_n (n := 0) rfl ?_
                    refine wb_gf5 158 rfl (wy_pr rfl) wt_158 wf_5_4 (v := 226) (l4) (fun r46 => ?_)
                    refine wa_iload (n := 6) rfl ?_
                    refine wa_ifne (w_rg0 (by omega) (by omega)) ⟨_, rfl⟩ (fun c47 => ?_) (fun c47 => ?_)
                    · skip
                      refine wa_iconst ?_
                      refine wa_fall ⟨_, rfl⟩ ?_
                      refine wb_pfi 226 rfl (wy_pr rfl) wt_226 wf_8_16 (n := 16) rfl ⟨(by omega), (by omega)⟩ ?_
                      refine wa_goto ⟨_, rfl⟩ ?_
                      refine wa_return rfl ?_
                      show wJ _ _ _ _ _ _ _ _ _ _
                      refine wa_goto ⟨_, rfl⟩ ?_
                      refine wa_return rfl ?_
                      have ev : (if vk = 0 then 4 else 5 : Int) = 5 := by first | exact if_pos (by omega) | exact if_neg (by omega)
                      exact ⟨rfl, by rw [ev]⟩
                    · skip
                      refine wa_iconst ?_
                      refine wa_goto ⟨_, rfl⟩ ?_
                      refine wb_pfi 226 rfl (wy_pr rfl) wt_226 wf_8_16 (n := 16) rfl ⟨(by omega), (by omega)⟩ ?_
                      refine wa_goto ⟨_, rfl⟩ ?_
                      refine wa_return rfl ?_
                      show wJ _ _ _ _ _ _ _ _ _ _
                      refine wa_goto ⟨_, rfl⟩ ?_
                      refine wa_return rfl ?_
                      have ev : (if vk = 0 then 4 else 5 : Int) = 4 := by first | exact if_pos (by omega) | exact if_neg (by omega)
                      exact ⟨rfl, by rw [ev]⟩
                · skip
                  exact absurd c44 (by omega)
        · skip
          exact absurd c11 (by omega)
    · skip
      exact absurd c7 (by omega)
  · skip
    exact absurd c4 (by omega)
set_option maxHeartbeats 4000000 in
theorem xmtf_226 {c p h kd ba gk gb x hd st wh vk vb e50 cs n u0 v0 fn f ar vs pn : Int} (hP : xP 226 c p h S) (hl : cSl S) (l4 : S 158 4 = 226) (l5 : S 158 5 = 227) (l7 : S 158 7 = kd) (l8 : S 158 8 = ba) (l9 : S 158 9 = gk) (l10 : S 158 10 = gb) (hx : 0 ≤ x ∧ x < S 48 (-1)) (hba : 0 ≤ ba ∧ ba < h) (hth : ∀ x : Nat, x < 10 → S (127 + x) (-1) = S 127 (-1)) (hn2 : S 127 (-1) ≤ 16383) (hl14 : S 142 (-1) = S 141 (-1)) (hz14 : 16 ≤ S 141 (-1) ∧ S 141 (-1) ≤ 480400) (e48 : S 48 x = 0) (hh0 : 0 ≤ hd ∧ hd < S 127 (-1)) (hhd : (e50 = -1 ∧ hd = gb) ∨ (e50 ≠ -1 ∧ hd = e50)) (he50 : S 50 x = e50) (he51 : S 51 x = wh) (hgb : 0 ≤ gb ∧ gb < S 127 (-1)) (hst : S 133 hd = st) (hwh : (wh = -1 ∧ vk = 0 ∧ vb = 0 ∧ -1000 ≤ st ∧ st ≤ 1000000) ∨ (0 ≤ wh ∧ wh ≤ 100000 ∧ 0 ≤ st ∧ st + wh < S 141 (-1) ∧ S 141 (st + wh) = vk ∧ S 142 (st + wh) = vb)) (hx1 : pe_at (pe_GA xs).xs 1 = some (1, tx_1)) (h2 : S 140 2 = cs) (hcs : 0 ≤ cs ∧ cs ≤ S 141 (-1)) (hcl : S 139 (-1) = S 138 (-1)) (hm : S 72 5 = n) (hm1 : 0 ≤ n ∧ n ≤ S 138 (-1)) (hm2 : 64 ≤ S 138 (-1) ∧ S 138 (-1) ≤ 16383) (hu0 : S 150 0 = u0) (hu1 : 0 ≤ u0 ∧ u0 ≤ 8000) (hv0 : S 150 1 = v0) (hv1 : 0 ≤ v0 ∧ v0 ≤ 60000) (hfn : 0 ≤ fn ∧ fn < S 127 (-1)) (hf : S 129 fn = f) (hf1 : 0 ≤ f ∧ f < 400) (har : S 136 fn = ar) (hvs : S 23 f = vs) (hvs1 : 0 ≤ vs ∧ vs ≤ 1000) (hpn : S 22 f = pn) (hpn1 : 0 ≤ pn ∧ pn ≤ 1000) (hpr : S 226 16 = 0) (hkd : kd = 5) (hvk : vk = 5) (hvb : vb = fn) (hgk : 0 ≤ gk ∧ gk ≤ 8) : wJ (pe_GA xs) wY0 (mS [228, 229, 138, 139, 141, 142]) (d + 8) t_XL_act ((pe_at t_XL_act.bl 0).getD (0, [])).2 [(0, (2, 158)), (1, (0, x))] [] S (fun o Z => o = .inl none ∧ ((c < 200 ∧ u0 + 1 ≤ 8000 ∧ v0 + vs ≤ 60000 ∧ enQ_226 ar vs (if h - ba - 1 ≤ pn then h - ba - 1 else pn) ba c p f n gk gb 0 cs S Z) ∨ (c = 200 ∧ w_up S 226 16 11 = Z) ∨ (c < 200 ∧ ¬ (u0 + 1 ≤ 8000 ∧ v0 + vs ≤ 60000) ∧ w_up S 226 16 99 = Z))) := by
  obtain ⟨⟨hC, hI⟩, ⟨bc, bc0, bc1⟩, ⟨bp, bp0, bp1⟩, ⟨bh, bh0, bh1, bh2⟩, bl1, bl2, bl3⟩ := hP
  replace bp : S 231 (c - 1) = p := bp
  replace bh : S 227 2 = h := bh
  replace bh2 : h ≤ S 228 (-1) := bh2
  replace bl1 : S 229 (-1) = S 228 (-1) := bl1
  replace bl2 : 64 ≤ S 228 (-1) := bl2
  replace bl3 : S 228 (-1) ≤ 4095 := bl3
  have h35 := hl.2.1
  have h48 := hl.2.2.2
  subst hvb
  refine wa_aload_n (n := 0) rfl ?_
  refine wb_gf4 158 rfl (wy_pr rfl) wt_158 wf_5_3 (v := 47) wl_158_3 ?_
  refine wa_iconst ?_
  refine wb_aald5 47 3 rfl rfl (wy_pr rfl) wt_47 (by rw [show _ = _ from ((cl_47 hC))]; omega) wl_47_3 ?_
  refine wa_iload_n (n := 1) rfl ?_
  refine wb_iald 51 rfl (wy_pr rfl) wt_51 (n := (S 48 (-1))) ((hl.2.2.1 3 (by decide))) (by omega) (by omega) (v := wh) (he51) (fun r1 => ?_)
  refine wa_istore_n (n := 2) rfl ?_
  refine wa_aload_n (n := 0) rfl ?_
  refine wb_gf4 158 rfl (wy_pr rfl) wt_158 wf_5_3 (v := 47) wl_158_3 ?_
  refine wa_iconst ?_
  refine wb_aald5 47 0 rfl rfl (wy_pr rfl) wt_47 (by rw [show _ = _ from ((cl_47 hC))]; omega) wl_47_0 ?_
  refine wa_iload_n (n := 1) rfl ?_
  refine wb_iald 48 rfl (wy_pr rfl) wt_48 (n := (S 48 (-1))) (rfl) (by omega) (by omega) (v := 0) (e48) (fun r2 => ?_)
  refine wa_lw (tb := 0) (w_rg0 (by omega) (by omega)) (q := (27, 1)) (by first | rfl | decide) ⟨_, rfl⟩ ?_
  refine wa_aload_n (n := 0) rfl ?_
  refine wb_gfi 158 rfl (wy_pr rfl) wt_158 wf_5_7 (v := kd) (l7) (fun r3 => ?_)
  refine wa_bipush (w_rg2 (by omega) (by omega)) ?_
  refine wa_icmpne (w_rg0 (by omega) (by omega)) (w_rg0 (by omega) (by omega)) ⟨_, rfl⟩ (fun c4 => ?_) (fun c4 => ?_)
  · skip
    refine wa_aload_n (n := 0) rfl ?_
    refine wa_iload_n (n := 1) rfl ?_
    refine wa_aload_n (n := 0) rfl ?_
    refine wb_gfl 158 rfl (wy_pr rfl) wt_158 wf_5_10 (v := gb) (l10) (fun r5 => ?_)
    refine wb_l2i_r (wb_l2i_id ⟨(by omega), (by omega)⟩) ?_
    refine wa_cv 158 rfl (wy_pr rfl) wt_158 (M2 := mS [228, 229, 138, 139, 141, 142]) rfl at_XL_actOnThing ⟨_, rfl⟩ rfl rfl ⟨trivial, (Or.inr ⟨wy_pr rfl, mS_no rfl⟩), trivial, trivial⟩ trivial (fun _ _ q => q) ?_ (fun _ _ _ q => q)
    refine wa_aload_n (n := 0) rfl ?_
    refine wb_gfi 158 rfl (wy_pr rfl) wt_158 wf_5_7 (v := kd) (l7) (fun r6 => ?_)
    refine wa_iconst ?_
    refine wa_icmpne (w_rg0 (by omega) (by omega)) (w_rg0 (by omega) (by omega)) ⟨_, rfl⟩ (fun c7 => ?_) (fun c7 => ?_)
    · skip
      refine wa_aload_n (n := 0) rfl ?_
      refine wb_gfi 158 rfl (wy_pr rfl) wt_158 wf_5_7 (v := kd) (l7) (fun r8 => ?_)
      refine wa_iconst ?_
      refine wa_icmpeq (w_rg0 (by omega) (by omega)) (w_rg0 (by omega) (by omega)) ⟨_, rfl⟩ (fun c9 => ?_) (fun c9 => ?_)
      · skip
        exact absurd c9 (by omega)
      · skip
        refine wa_aload_n (n := 0) rfl ?_
        refine wb_gfi 158 rfl (wy_pr rfl) wt_158 wf_5_7 (v := kd) (l7) (fun r10 => ?_)
        refine wa_iconst ?_
        refine wa_icmpne (w_rg0 (by omega) (by omega)) (w_rg0 (by omega) (by omega)) ⟨_, rfl⟩ (fun c11 => ?_) (fun c11 => ?_)
        · skip
          refine wa_aload_n (n := 0) rfl ?_
          refine wb_gf4 158 rfl (wy_pr rfl) wt_158 wf_5_3 (v := 47) wl_158_3 ?_
          refine wa_iconst ?_
          refine wb_aald5 47 3 rfl rfl (wy_pr rfl) wt_47 (by rw [show _ = _ from ((cl_47 hC))]; omega) wl_47_3 ?_
          refine wa_iload_n (n := 1) rfl ?_
          refine wb_iald 51 rfl (wy_pr rfl) wt_51 (n := (S 48 (-1))) ((hl.2.2.1 3 (by decide))) (by omega) (by omega) (v := wh) (he51) (fun r12 => ?_)
          refine wa_istore_n (n := 3) rfl ?_
          refine wa_aload_n (n := 0) rfl ?_
          refine wb_gf4 158 rfl (wy_pr rfl) wt_158 wf_5_3 (v := 47) wl_158_3 ?_
          refine wa_iconst ?_
          refine wb_aald5 47 2 rfl rfl (wy_pr rfl) wt_47 (by rw [show _ = _ from ((cl_47 hC))]; omega) wl_47_2 ?_
          refine wa_iload_n (n := 1) rfl ?_
          refine wb_iald 50 rfl (wy_pr rfl) wt_50 (n := (S 48 (-1))) ((hl.2.2.1 2 (by decide))) (by omega) (by omega) (v := e50) (he50) (fun r13 => ?_)
          refine wa_iconst ?_
          refine wa_icmpne (w_rg0 (by omega) (by omega)) (w_rg0 (by omega) (by omega)) ⟨_, rfl⟩ (fun c14 => ?_) (fun c14 => ?_)
          · skip
            refine wa_aload_n (n := 0) rfl ?_
            refine wb_gf4 158 rfl (wy_pr rfl) wt_158 wf_5_3 (v := 47) wl_158_3 ?_
            refine wa_iconst ?_
            refine wb_aald5 47 2 rfl rfl (wy_pr rfl) wt_47 (by rw [show _ = _ from ((cl_47 hC))]; omega) wl_47_2 ?_
            refine wa_iload_n (n := 1) rfl ?_
            refine wb_iald 50 rfl (wy_pr rfl) wt_50 (n := (S 48 (-1))) ((hl.2.2.1 2 (by decide))) (by omega) (by omega) (v := e50) (he50) (fun r15 => ?_)
            refine wa_fall ⟨_, rfl⟩ ?_
            refine wJ_top (show (e50 : Int) = hd by omega) ?_
            refine wa_istore (n := 4) rfl ?_
            refine wa_aload_n (n := 0) rfl ?_
            refine wb_gf4 158 rfl (wy_pr rfl) wt_158 wf_5_0 (v := 72) wl_158_0 ?_
            refine wb_gf4 72 rfl (wy_pr rfl) wt_72 wf_2_2 (v := 126) wl_72_2 ?_
            refine wa_bipush (w_rg2 (by omega) (by omega)) ?_
            refine wb_aald5 126 6 rfl rfl (wy_pr rfl) wt_126 (by rw [show _ = _ from ((cl_126 hC))]; omega) wl_126_6 ?_
            refine wa_iload (n := 4) rfl ?_
            refine wb_iald 133 rfl (wy_pr rfl) wt_133 (n := (S 127 (-1))) ((hth 6 (by decide))) (by omega) (by omega) (v := st) (hst) (fun r16 => ?_)
            refine wa_iload_n (n := 3) rfl ?_
            refine wa_iadd ?_
            refine wa_istore (n := 5) rfl ?_
            refine wa_iload_n (n := 3) rfl ?_
            refine wa_iconst ?_
            refine wa_icmpne (w_rg0 (by omega) (by omega)) (w_rg0 (by omega) (by omega)) ⟨_, rfl⟩ (fun c17 => ?_) (fun c17 => ?_)
            · skip
              refine wa_aload_n (n := 0) rfl ?_
              refine wb_gf4 158 rfl (wy_pr rfl) wt_158 wf_5_0 (v := 72) wl_158_0 ?_
              refine wb_gf4 72 rfl (wy_pr rfl) wt_72 wf_2_6 (v := 140) wl_72_6 ?_
              refine wb_gf4 140 rfl (wy_pr rfl) wt_140 wf_7_0 (v := 141) wl_140_0 ?_
              refine wa_iload (n := 5) rfl ?_
              refine wb_bald 141 rfl (wy_pr rfl) wt_141 (n := (S 141 (-1))) (rfl) (by omega) (by omega) (v := (S 141 (st + wh))) rfl (fun r18 => ?_)
              refine wa_fall ⟨_, rfl⟩ ?_
              have hv7 : (S 141 (st + wh)) = vk := by omega
              refine wJ_top hv7 ?_
              refine wa_istore (n := 6) rfl ?_
              refine wa_iload_n (n := 3) rfl ?_
              refine wa_iconst ?_
              refine wa_icmpne (w_rg0 (by omega) (by omega)) (w_rg0 (by omega) (by omega)) ⟨_, rfl⟩ (fun c19 => ?_) (fun c19 => ?_)
              · skip
                refine wa_aload_n (n := 0) rfl ?_
                refine wb_gf4 158 rfl (wy_pr rfl) wt_158 wf_5_0 (v := 72) wl_158_0 ?_
                refine wb_gf4 72 rfl (wy_pr rfl) wt_72 wf_2_6 (v := 140) wl_72_6 ?_
                refine wb_gf4 140 rfl (wy_pr rfl) wt_140 wf_7_1 (v := 142) wl_140_1 ?_
                refine wa_iload (n := 5) rfl ?_
                refine wb_lald 142 rfl (wy_pr rfl) wt_142 (n := (S 141 (-1))) (hl14) (by omega) (by omega) (v := (S 142 (st + wh))) rfl (fun r20 => ?_)
                refine wa_fall ⟨_, rfl⟩ ?_
                have hv9 : (S 142 (st + wh)) = vb := by omega
                refine wJ_top hv9 ?_
                refine wa_lstore (n := 7) rfl ?_
                refine wa_aload_n (n := 0) rfl ?_
                refine wb_gfi 158 rfl (wy_pr rfl) wt_158 wf_5_7 (v := kd) (l7) (fun r21 => ?_)
                refine wa_iconst ?_
                refine wa_icmpeq (w_rg0 (by omega) (by omega)) (w_rg0 (by omega) (by omega)) ⟨_, rfl⟩ (fun c22 => ?_) (fun c22 => ?_)
                · skip
                  refine wa_iload (n := 6) rfl ?_
                  refine wa_iconst ?_
                  refine wa_icmpeq (w_rg0 (by omega) (by omega)) (w_rg0 (by omega) (by omega)) ⟨_, rfl⟩ (fun c23 => ?_) (fun c23 => ?_)
                  · skip
                    refine wa_aload_n (n := 0) rfl ?_
                    refine wb_gf5 158 rfl (wy_pr rfl) wt_158 wf_5_4 (v := 226) (l4) (fun r24 => ?_)
                    refine wa_lload (n := 7) rfl ?_
                    refine wb_l2i_r (wb_l2i_id ⟨(by omega), (by omega)⟩) ?_
                    refine wa_iconst ?_
                    refine wa_cv 226 rfl (wy_pr rfl) wt_226 (M2 := mS []) rfl at_XK_canEnter ⟨_, rfl⟩ rfl rfl ⟨trivial, trivial, trivial, trivial, trivial, (Or.inr ⟨wy_pr rfl, mS_no rfl⟩), trivial, trivial, trivial⟩ trivial (fun _ _ q => mS_sub (by decide) q) (ce_226 (fn := vb) (n0 := 0) hx1 hC (hth 2 (by decide)) hfn hf hf1 hvs hvs1 bc ⟨by omega, by omega⟩ hu0 hu1 hv0 hv1 (by decide) hpr) (fun oq25 Sq25 hp26 q25 => ?_)
                    rcases q25 with ⟨cc1, cc2, cc3, rfl, rfl⟩ | ⟨cc1, rfl, rfl⟩ | ⟨cc1, cc2, rfl, rfl⟩
                    · skip
                      show wJ _ _ _ _ _ _ _ _ _ _
                      refine wa_ifeq (w_rg0 (by omega) (by omega)) ⟨_, rfl⟩ (fun c27 => ?_) (fun c27 => ?_)
                      · skip
                        exact absurd c27 (by omega)
                      · skip
                        refine wa_aload_n (n := 0) rfl ?_
                        refine wb_gf5 158 rfl (wy_pr rfl) wt_158 wf_5_4 (v := 226) (l4) (fun r28 => ?_)
                        refine wa_lload (n := 7) rfl ?_
                        refine wb_l2i_r (wb_l2i_id ⟨(by omega), (by omega)⟩) ?_
                        refine wa_aload_n (n := 0) rfl ?_
                        refine wb_gfi 158 rfl (wy_pr rfl) wt_158 wf_5_8 (v := ba) (l8) (fun r29 => ?_)
                        refine wa_aload_n (n := 0) rfl ?_
                        refine wb_gfi 158 rfl (wy_pr rfl) wt_158 wf_5_9 (v := gk) (l9) (fun r30 => ?_)
                        refine wa_aload_n (n := 0) rfl ?_
                        refine wb_gfl 158 rfl (wy_pr rfl) wt_158 wf_5_10 (v := gb) (l10) (fun r31 => ?_)
                        refine wa_iconst ?_
                        refine wa_cv 226 rfl (wy_pr rfl) wt_226 (M2 := mS [138, 139, 141, 142]) rfl at_XK_enter ⟨_, rfl⟩ rfl rfl ⟨trivial, trivial, trivial, trivial, trivial, (Or.inr ⟨wy_pr rfl, mS_no rfl⟩), trivial, trivial, trivial⟩ trivial (fun _ _ q => mS_sub (by decide) q) (en_226 (fn := vb) (pl := ba) (kd := gk) (bt := gb) (nw := 0) hC hI h2 hcs hl14 hz14 hcl hm hm1 hm2 hu0 hu1 hv0 hv1 ⟨hth 2 (by decide), hth 9 (by decide)⟩ hfn hf hf1 har hvs hvs1 hpn hpn1 bc ⟨by omega, by omega⟩ bp ⟨by omega, by omega⟩ bh bh2 ⟨bl1, bl3⟩ ⟨by omega, by omega⟩ (by omega) (by omega) ⟨by omega, by omega⟩ ⟨by omega, by omega⟩ (by decide)) (fun oq32 Sq32 hp33 q32 => ?_)
                        rcases q32 with ⟨rfl, hen⟩
                        show wJ _ _ _ _ _ _ _ _ _ _
                        refine wa_fall ⟨_, rfl⟩ ?_
                        refine wa_return rfl ?_
                        show wJ _ _ _ _ _ _ _ _ _ _
                        refine wa_goto ⟨_, rfl⟩ ?_
                        refine wa_return rfl ?_
                        exact ⟨rfl, Or.inl ⟨by omega, by omega, by omega, hen⟩⟩
                    · skip
                      show wJ _ _ _ _ _ _ _ _ _ _
                      refine wa_ifeq (w_rg0 (by omega) (by omega)) ⟨_, rfl⟩ (fun c34 => ?_) (fun c34 => ?_)
                      · skip
                        refine wa_return rfl ?_
                        show wJ _ _ _ _ _ _ _ _ _ _
                        refine wa_goto ⟨_, rfl⟩ ?_
                        refine wa_return rfl ?_
                        exact ⟨rfl, Or.inr (Or.inl ⟨by omega, rfl⟩)⟩
                      · skip
                        exact absurd c34 (by omega)
                    · skip
                      show wJ _ _ _ _ _ _ _ _ _ _
                      refine wa_ifeq (w_rg0 (by omega) (by omega)) ⟨_, rfl⟩ (fun c35 => ?_) (fun c35 => ?_)
                      · skip
                        refine wa_return rfl ?_
                        show wJ _ _ _ _ _ _ _ _ _ _
                        refine wa_goto ⟨_, rfl⟩ ?_
                        refine wa_return rfl ?_
                        exact ⟨rfl, Or.inr (Or.inr ⟨by omega, by omega, rfl⟩)⟩
                      · skip
                        exact absurd c35 (by omega)
                  · skip
                    exact absurd c23 (by omega)
                · skip
                  exact absurd c22 (by omega)
              · skip
                exact absurd c19 (by omega)
            · skip
              refine wa_iconst ?_
              refine wa_goto ⟨_, rfl⟩ ?_
              have hv7 : 0 = vk := by omega
              refine wJ_top hv7 ?_
              refine wa_istore (n := 6) rfl ?_
              refine wa_iload_n (n := 3) rfl ?_
              refine wa_iconst ?_
              refine wa_icmpne (w_rg0 (by omega) (by omega)) (w_rg0 (by omega) (by omega)) ⟨_, rfl⟩ (fun c36 => ?_) (fun c36 => ?_)
              · skip
                exact absurd c36 (by omega)
              · skip
                refine wb_lconst (m := 0) rfl ?_
                refine wa_goto ⟨_, rfl⟩ ?_
                have hv9 : 0 = vb := by omega
                refine wJ_top hv9 ?_
                refine wa_lstore (n := 7) rfl ?_
                refine wa_aload_n (n := 0) rfl ?_
                refine wb_gfi 158 rfl (wy_pr rfl) wt_158 wf_5_7 (v := kd) (l7) (fun r37 => ?_)
                refine wa_iconst ?_
                refine wa_icmpeq (w_rg0 (by omega) (by omega)) (w_rg0 (by omega) (by omega)) ⟨_, rfl⟩ (fun c38 => ?_) (fun c38 => ?_)
                · skip
                  refine wa_iload (n := 6) rfl ?_
                  refine wa_iconst ?_
                  refine wa_icmpeq (w_rg0 (by omega) (by omega)) (w_rg0 (by omega) (by omega)) ⟨_, rfl⟩ (fun c39 => ?_) (fun c39 => ?_)
                  · skip
                    refine wa_aload_n (n := 0) rfl ?_
                    refine wb_gf5 158 rfl (wy_pr rfl) wt_158 wf_5_4 (v := 226) (l4) (fun r40 => ?_)
                    refine wa_lload (n := 7) rfl ?_
                    refine wb_l2i_r (wb_l2i_id ⟨(by omega), (by omega)⟩) ?_
                    refine wa_iconst ?_
                    refine wa_cv 226 rfl (wy_pr rfl) wt_226 (M2 := mS []) rfl at_XK_canEnter ⟨_, rfl⟩ rfl rfl ⟨trivial, trivial, trivial, trivial, trivial, (Or.inr ⟨wy_pr rfl, mS_no rfl⟩), trivial, trivial, trivial⟩ trivial (fun _ _ q => mS_sub (by decide) q) (ce_226 (fn := vb) (n0 := 0) hx1 hC (hth 2 (by decide)) hfn hf hf1 hvs hvs1 bc ⟨by omega, by omega⟩ hu0 hu1 hv0 hv1 (by decide) hpr) (fun oq41 Sq41 hp42 q41 => ?_)
                    rcases q41 with ⟨cc1, cc2, cc3, rfl, rfl⟩ | ⟨cc1, rfl, rfl⟩ | ⟨cc1, cc2, rfl, rfl⟩
                    · skip
                      show wJ _ _ _ _ _ _ _ _ _ _
                      refine wa_ifeq (w_rg0 (by omega) (by omega)) ⟨_, rfl⟩ (fun c43 => ?_) (fun c43 => ?_)
                      · skip
                        exact absurd c43 (by omega)
                      · skip
                        refine wa_aload_n (n := 0) rfl ?_
                        refine wb_gf5 158 rfl (wy_pr rfl) wt_158 wf_5_4 (v := 226) (l4) (fun r44 => ?_)
                        refine wa_lload (n := 7) rfl ?_
                        refine wb_l2i_r (wb_l2i_id ⟨(by omega), (by omega)⟩) ?_
                        refine wa_aload_n (n := 0) rfl ?_
                        refine wb_gfi 158 rfl (wy_pr rfl) wt_158 wf_5_8 (v := ba) (l8) (fun r45 => ?_)
                        refine wa_aload_n (n := 0) rfl ?_
                        refine wb_gfi 158 rfl (wy_pr rfl) wt_158 wf_5_9 (v := gk) (l9) (fun r46 => ?_)
                        refine wa_aload_n (n := 0) rfl ?_
                        refine wb_gfl 158 rfl (wy_pr rfl) wt_158 wf_5_10 (v := gb) (l10) (fun r47 => ?_)
                        refine wa_iconst ?_
                        refine wa_cv 226 rfl (wy_pr rfl) wt_226 (M2 := mS [138, 139, 141, 142]) rfl at_XK_enter ⟨_, rfl⟩ rfl rfl ⟨trivial, trivial, trivial, trivial, trivial, (Or.inr ⟨wy_pr rfl, mS_no rfl⟩), trivial, trivial, trivial⟩ trivial (fun _ _ q => mS_sub (by decide) q) (en_226 (fn := vb) (pl := ba) (kd := gk) (bt := gb) (nw := 0) hC hI h2 hcs hl14 hz14 hcl hm hm1 hm2 hu0 hu1 hv0 hv1 ⟨hth 2 (by decide), hth 9 (by decide)⟩ hfn hf hf1 har hvs hvs1 hpn hpn1 bc ⟨by omega, by omega⟩ bp ⟨by omega, by omega⟩ bh bh2 ⟨bl1, bl3⟩ ⟨by omega, by omega⟩ (by omega) (by omega) ⟨by omega, by omega⟩ ⟨by omega, by omega⟩ (by decide)) (fun oq48 Sq48 hp49 q48 => ?_)
                        rcases q48 with ⟨rfl, hen⟩
                        show wJ _ _ _ _ _ _ _ _ _ _
                        refine wa_fall ⟨_, rfl⟩ ?_
                        refine wa_return rfl ?_
                        show wJ _ _ _ _ _ _ _ _ _ _
                        refine wa_goto ⟨_, rfl⟩ ?_
                        refine wa_return rfl ?_
                        exact ⟨rfl, Or.inl ⟨by omega, by omega, by omega, hen⟩⟩
                    · skip
                      show wJ _ _ _ _ _ _ _ _ _ _
                      refine wa_ifeq (w_rg0 (by omega) (by omega)) ⟨_, rfl⟩ (fun c50 => ?_) (fun c50 => ?_)
                      · skip
                        refine wa_return rfl ?_
                        show wJ _ _ _ _ _ _ _ _ _ _
                        refine wa_goto ⟨_, rfl⟩ ?_
                        refine wa_return rfl ?_
                        exact ⟨rfl, Or.inr (Or.inl ⟨by omega, rfl⟩)⟩
                      · skip
                        exact absurd c50 (by omega)
                    · skip
                      show wJ _ _ _ _ _ _ _ _ _ _
                      refine wa_ifeq (w_rg0 (by omega) (by omega)) ⟨_, rfl⟩ (fun c51 => ?_) (fun c51 => ?_)
                      · skip
                        refine wa_return rfl ?_
                        show wJ _ _ _ _ _ _ _ _ _ _
                        refine wa_goto ⟨_, rfl⟩ ?_
                        refine wa_return rfl ?_
                        exact ⟨rfl, Or.inr (Or.inr ⟨by omega, by omega, rfl⟩)⟩
                      · skip
                        exact absurd c51 (by omega)
                  · skip
                    exact absurd c39 (by omega)
                · skip
                  exact absurd c38 (by omega)
          · skip
            refine wa_iload_n (n := 2) rfl ?_
            refine wa_goto ⟨_, rfl⟩ ?_
            refine wJ_top (show (gb : Int) = hd by omega) ?_
            refine wa_istore (n := 4) rfl ?_
            refine wa_aload_n (n := 0) rfl ?_
            refine wb_gf4 158 rfl (wy_pr rfl) wt_158 wf_5_0 (v := 72) wl_158_0 ?_
            refine wb_gf4 72 rfl (wy_pr rfl) wt_72 wf_2_2 (v := 126) wl_72_2 ?_
            refine wa_bipush (w_rg2 (by omega) (by omega)) ?_
            refine wb_aald5 126 6 rfl rfl (wy_pr rfl) wt_126 (by rw [show _ = _ from ((cl_126 hC))]; omega) wl_126_6 ?_
            refine wa_iload (n := 4) rfl ?_
            refine wb_iald 133 rfl (wy_pr rfl) wt_133 (n := (S 127 (-1))) ((hth 6 (by decide))) (by omega) (by omega) (v := st) (hst) (fun r52 => ?_)
            refine wa_iload_n (n := 3) rfl ?_
            refine wa_iadd ?_
            refine wa_istore (n := 5) rfl ?_
            refine wa_iload_n (n := 3) rfl ?_
            refine wa_iconst ?_
            refine wa_icmpne (w_rg0 (by omega) (by omega)) (w_rg0 (by omega) (by omega)) ⟨_, rfl⟩ (fun c53 => ?_) (fun c53 => ?_)
            · skip
              refine wa_aload_n (n := 0) rfl ?_
              refine wb_gf4 158 rfl (wy_pr rfl) wt_158 wf_5_0 (v := 72) wl_158_0 ?_
              refine wb_gf4 72 rfl (wy_pr rfl) wt_72 wf_2_6 (v := 140) wl_72_6 ?_
              refine wb_gf4 140 rfl (wy_pr rfl) wt_140 wf_7_0 (v := 141) wl_140_0 ?_
              refine wa_iload (n := 5) rfl ?_
              refine wb_bald 141 rfl (wy_pr rfl) wt_141 (n := (S 141 (-1))) (rfl) (by omega) (by omega) (v := (S 141 (st + wh))) rfl (fun r54 => ?_)
              refine wa_fall ⟨_, rfl⟩ ?_
              have hv7 : (S 141 (st + wh)) = vk := by omega
              refine wJ_top hv7 ?_
              refine wa_istore (n := 6) rfl ?_
              refine wa_iload_n (n := 3) rfl ?_
              refine wa_iconst ?_
              refine wa_icmpne (w_rg0 (by omega) (by omega)) (w_rg0 (by omega) (by omega)) ⟨_, rfl⟩ (fun c55 => ?_) (fun c55 => ?_)
              · skip
                refine wa_aload_n (n := 0) rfl ?_
                refine wb_gf4 158 rfl (wy_pr rfl) wt_158 wf_5_0 (v := 72) wl_158_0 ?_
                refine wb_gf4 72 rfl (wy_pr rfl) wt_72 wf_2_6 (v := 140) wl_72_6 ?_
                refine wb_gf4 140 rfl (wy_pr rfl) wt_140 wf_7_1 (v := 142) wl_140_1 ?_
                refine wa_iload (n := 5) rfl ?_
                refine wb_lald 142 rfl (wy_pr rfl) wt_142 (n := (S 141 (-1))) (hl14) (by omega) (by omega) (v := (S 142 (st + wh))) rfl (fun r56 => ?_)
                refine wa_fall ⟨_, rfl⟩ ?_
                have hv9 : (S 142 (st + wh)) = vb := by omega
                refine wJ_top hv9 ?_
                refine wa_lstore (n := 7) rfl ?_
                refine wa_aload_n (n := 0) rfl ?_
                refine wb_gfi 158 rfl (wy_pr rfl) wt_158 wf_5_7 (v := kd) (l7) (fun r57 => ?_)
                refine wa_iconst ?_
                refine wa_icmpeq (w_rg0 (by omega) (by omega)) (w_rg0 (by omega) (by omega)) ⟨_, rfl⟩ (fun c58 => ?_) (fun c58 => ?_)
                · skip
                  refine wa_iload (n := 6) rfl ?_
                  refine wa_iconst ?_
                  refine wa_icmpeq (w_rg0 (by omega) (by omega)) (w_rg0 (by omega) (by omega)) ⟨_, rfl⟩ (fun c59 => ?_) (fun c59 => ?_)
                  · skip
                    refine wa_aload_n (n := 0) rfl ?_
                    refine wb_gf5 158 rfl (wy_pr rfl) wt_158 wf_5_4 (v := 226) (l4) (fun r60 => ?_)
                    refine wa_lload (n := 7) rfl ?_
                    refine wb_l2i_r (wb_l2i_id ⟨(by omega), (by omega)⟩) ?_
                    refine wa_iconst ?_
                    refine wa_cv 226 rfl (wy_pr rfl) wt_226 (M2 := mS []) rfl at_XK_canEnter ⟨_, rfl⟩ rfl rfl ⟨trivial, trivial, trivial, trivial, trivial, (Or.inr ⟨wy_pr rfl, mS_no rfl⟩), trivial, trivial, trivial⟩ trivial (fun _ _ q => mS_sub (by decide) q) (ce_226 (fn := vb) (n0 := 0) hx1 hC (hth 2 (by decide)) hfn hf hf1 hvs hvs1 bc ⟨by omega, by omega⟩ hu0 hu1 hv0 hv1 (by decide) hpr) (fun oq61 Sq61 hp62 q61 => ?_)
                    rcases q61 with ⟨cc1, cc2, cc3, rfl, rfl⟩ | ⟨cc1, rfl, rfl⟩ | ⟨cc1, cc2, rfl, rfl⟩
                    · skip
                      show wJ _ _ _ _ _ _ _ _ _ _
                      refine wa_ifeq (w_rg0 (by omega) (by omega)) ⟨_, rfl⟩ (fun c63 => ?_) (fun c63 => ?_)
                      · skip
                        exact absurd c63 (by omega)
                      · skip
                        refine wa_aload_n (n := 0) rfl ?_
                        refine wb_gf5 158 rfl (wy_pr rfl) wt_158 wf_5_4 (v := 226) (l4) (fun r64 => ?_)
                        refine wa_lload (n := 7) rfl ?_
                        refine wb_l2i_r (wb_l2i_id ⟨(by omega), (by omega)⟩) ?_
                        refine wa_aload_n (n := 0) rfl ?_
                        refine wb_gfi 158 rfl (wy_pr rfl) wt_158 wf_5_8 (v := ba) (l8) (fun r65 => ?_)
                        refine wa_aload_n (n := 0) rfl ?_
                        refine wb_gfi 158 rfl (wy_pr rfl) wt_158 wf_5_9 (v := gk) (l9) (fun r66 => ?_)
                        refine wa_aload_n (n := 0) rfl ?_
                        refine wb_gfl 158 rfl (wy_pr rfl) wt_158 wf_5_10 (v := gb) (l10) (fun r67 => ?_)
                        refine wa_iconst ?_
                        refine wa_cv 226 rfl (wy_pr rfl) wt_226 (M2 := mS [138, 139, 141, 142]) rfl at_XK_enter ⟨_, rfl⟩ rfl rfl ⟨trivial, trivial, trivial, trivial, trivial, (Or.inr ⟨wy_pr rfl, mS_no rfl⟩), trivial, trivial, trivial⟩ trivial (fun _ _ q => mS_sub (by decide) q) (en_226 (fn := vb) (pl := ba) (kd := gk) (bt := gb) (nw := 0) hC hI h2 hcs hl14 hz14 hcl hm hm1 hm2 hu0 hu1 hv0 hv1 ⟨hth 2 (by decide), hth 9 (by decide)⟩ hfn hf hf1 har hvs hvs1 hpn hpn1 bc ⟨by omega, by omega⟩ bp ⟨by omega, by omega⟩ bh bh2 ⟨bl1, bl3⟩ ⟨by omega, by omega⟩ (by omega) (by omega) ⟨by omega, by omega⟩ ⟨by omega, by omega⟩ (by decide)) (fun oq68 Sq68 hp69 q68 => ?_)
                        rcases q68 with ⟨rfl, hen⟩
                        show wJ _ _ _ _ _ _ _ _ _ _
                        refine wa_fall ⟨_, rfl⟩ ?_
                        refine wa_return rfl ?_
                        show wJ _ _ _ _ _ _ _ _ _ _
                        refine wa_goto ⟨_, rfl⟩ ?_
                        refine wa_return rfl ?_
                        exact ⟨rfl, Or.inl ⟨by omega, by omega, by omega, hen⟩⟩
                    · skip
                      show wJ _ _ _ _ _ _ _ _ _ _
                      refine wa_ifeq (w_rg0 (by omega) (by omega)) ⟨_, rfl⟩ (fun c70 => ?_) (fun c70 => ?_)
                      · skip
                        refine wa_return rfl ?_
                        show wJ _ _ _ _ _ _ _ _ _ _
                        refine wa_goto ⟨_, rfl⟩ ?_
                        refine wa_return rfl ?_
                        exact ⟨rfl, Or.inr (Or.inl ⟨by omega, rfl⟩)⟩
                      · skip
                        exact absurd c70 (by omega)
                    · skip
                      show wJ _ _ _ _ _ _ _ _ _ _
                      refine wa_ifeq (w_rg0 (by omega) (by omega)) ⟨_, rfl⟩ (fun c71 => ?_) (fun c71 => ?_)
                      · skip
                        refine wa_return rfl ?_
                        show wJ _ _ _ _ _ _ _ _ _ _
                        refine wa_goto ⟨_, rfl⟩ ?_
                        refine wa_return rfl ?_
                        exact ⟨rfl, Or.inr (Or.inr ⟨by omega, by omega, rfl⟩)⟩
                      · skip
                        exact absurd c71 (by omega)
                  · skip
                    exact absurd c59 (by omega)
                · skip
                  exact absurd c58 (by omega)
              · skip
                exact absurd c55 (by omega)
            · skip
              refine wa_iconst ?_
              refine wa_goto ⟨_, rfl⟩ ?_
              have hv7 : 0 = vk := by omega
              refine wJ_top hv7 ?_
              refine wa_istore (n := 6) rfl ?_
              refine wa_iload_n (n := 3) rfl ?_
              refine wa_iconst ?_
              refine wa_icmpne (w_rg0 (by omega) (by omega)) (w_rg0 (by omega) (by omega)) ⟨_, rfl⟩ (fun c72 => ?_) (fun c72 => ?_)
              · skip
                exact absurd c72 (by omega)
              · skip
                refine wb_lconst (m := 0) rfl ?_
                refine wa_goto ⟨_, rfl⟩ ?_
                have hv9 : 0 = vb := by omega
                refine wJ_top hv9 ?_
                refine wa_lstore (n := 7) rfl ?_
                refine wa_aload_n (n := 0) rfl ?_
                refine wb_gfi 158 rfl (wy_pr rfl) wt_158 wf_5_7 (v := kd) (l7) (fun r73 => ?_)
                refine wa_iconst ?_
                refine wa_icmpeq (w_rg0 (by omega) (by omega)) (w_rg0 (by omega) (by omega)) ⟨_, rfl⟩ (fun c74 => ?_) (fun c74 => ?_)
                · skip
                  refine wa_iload (n := 6) rfl ?_
                  refine wa_iconst ?_
                  refine wa_icmpeq (w_rg0 (by omega) (by omega)) (w_rg0 (by omega) (by omega)) ⟨_, rfl⟩ (fun c75 => ?_) (fun c75 => ?_)
                  · skip
                    refine wa_aload_n (n := 0) rfl ?_
                    refine wb_gf5 158 rfl (wy_pr rfl) wt_158 wf_5_4 (v := 226) (l4) (fun r76 => ?_)
                    refine wa_lload (n := 7) rfl ?_
                    refine wb_l2i_r (wb_l2i_id ⟨(by omega), (by omega)⟩) ?_
                    refine wa_iconst ?_
                    refine wa_cv 226 rfl (wy_pr rfl) wt_226 (M2 := mS []) rfl at_XK_canEnter ⟨_, rfl⟩ rfl rfl ⟨trivial, trivial, trivial, trivial, trivial, (Or.inr ⟨wy_pr rfl, mS_no rfl⟩), trivial, trivial, trivial⟩ trivial (fun _ _ q => mS_sub (by decide) q) (ce_226 (fn := vb) (n0 := 0) hx1 hC (hth 2 (by decide)) hfn hf hf1 hvs hvs1 bc ⟨by omega, by omega⟩ hu0 hu1 hv0 hv1 (by decide) hpr) (fun oq77 Sq77 hp78 q77 => ?_)
                    rcases q77 with ⟨cc1, cc2, cc3, rfl, rfl⟩ | ⟨cc1, rfl, rfl⟩ | ⟨cc1, cc2, rfl, rfl⟩
                    · skip
                      show wJ _ _ _ _ _ _ _ _ _ _
                      refine wa_ifeq (w_rg0 (by omega) (by omega)) ⟨_, rfl⟩ (fun c79 => ?_) (fun c79 => ?_)
                      · skip
                        exact absurd c79 (by omega)
                      · skip
                        refine wa_aload_n (n := 0) rfl ?_
                        refine wb_gf5 158 rfl (wy_pr rfl) wt_158 wf_5_4 (v := 226) (l4) (fun r80 => ?_)
                        refine wa_lload (n := 7) rfl ?_
                        refine wb_l2i_r (wb_l2i_id ⟨(by omega), (by omega)⟩) ?_
                        refine wa_aload_n (n := 0) rfl ?_
                        refine wb_gfi 158 rfl (wy_pr rfl) wt_158 wf_5_8 (v := ba) (l8) (fun r81 => ?_)
                        refine wa_aload_n (n := 0) rfl ?_
                        refine wb_gfi 158 rfl (wy_pr rfl) wt_158 wf_5_9 (v := gk) (l9) (fun r82 => ?_)
                        refine wa_aload_n (n := 0) rfl ?_
                        refine wb_gfl 158 rfl (wy_pr rfl) wt_158 wf_5_10 (v := gb) (l10) (fun r83 => ?_)
                        refine wa_iconst ?_
                        refine wa_cv 226 rfl (wy_pr rfl) wt_226 (M2 := mS [138, 139, 141, 142]) rfl at_XK_enter ⟨_, rfl⟩ rfl rfl ⟨trivial, trivial, trivial, trivial, trivial, (Or.inr ⟨wy_pr rfl, mS_no rfl⟩), trivial, trivial, trivial⟩ trivial (fun _ _ q => mS_sub (by decide) q) (en_226 (fn := vb) (pl := ba) (kd := gk) (bt := gb) (nw := 0) hC hI h2 hcs hl14 hz14 hcl hm hm1 hm2 hu0 hu1 hv0 hv1 ⟨hth 2 (by decide), hth 9 (by decide)⟩ hfn hf hf1 har hvs hvs1 hpn hpn1 bc ⟨by omega, by omega⟩ bp ⟨by omega, by omega⟩ bh bh2 ⟨bl1, bl3⟩ ⟨by omega, by omega⟩ (by omega) (by omega) ⟨by omega, by omega⟩ ⟨by omega, by omega⟩ (by decide)) (fun oq84 Sq84 hp85 q84 => ?_)
                        rcases q84 with ⟨rfl, hen⟩
                        show wJ _ _ _ _ _ _ _ _ _ _
                        refine wa_fall ⟨_, rfl⟩ ?_
                        refine wa_return rfl ?_
                        show wJ _ _ _ _ _ _ _ _ _ _
                        refine wa_goto ⟨_, rfl⟩ ?_
                        refine wa_return rfl ?_
                        exact ⟨rfl, Or.inl ⟨by omega, by omega, by omega, hen⟩⟩
                    · skip
                      show wJ _ _ _ _ _ _ _ _ _ _
                      refine wa_ifeq (w_rg0 (by omega) (by omega)) ⟨_, rfl⟩ (fun c86 => ?_) (fun c86 => ?_)
                      · skip
                        refine wa_return rfl ?_
                        show wJ _ _ _ _ _ _ _ _ _ _
                        refine wa_goto ⟨_, rfl⟩ ?_
                        refine wa_return rfl ?_
                        exact ⟨rfl, Or.inr (Or.inl ⟨by omega, rfl⟩)⟩
                      · skip
                        exact absurd c86 (by omega)
                    · skip
                      show wJ _ _ _ _ _ _ _ _ _ _
                      refine wa_ifeq (w_rg0 (by omega) (by omega)) ⟨_, rfl⟩ (fun c87 => ?_) (fun c87 => ?_)
                      · skip
                        refine wa_return rfl ?_
                        show wJ _ _ _ _ _ _ _ _ _ _
                        refine wa_goto ⟨_, rfl⟩ ?_
                        refine wa_return rfl ?_
                        exact ⟨rfl, Or.inr (Or.inr ⟨by omega, by omega, rfl⟩)⟩
                      · skip
                        exact absurd c87 (by omega)
                  · skip
                    exact absurd c75 (by omega)
                · skip
                  exact absurd c74 (by omega)
        · skip
          exact absurd c11 (by omega)
    · skip
      exact absurd c7 (by omega)
  · skip
    exact absurd c4 (by omega)
end Wgm
