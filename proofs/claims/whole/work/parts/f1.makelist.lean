/-! PART f1: the class's makeList. -/
section Wf1
variable {xs : List (Nat × List Int32)} {M : Nat → Prop} {d : Nat} {S Z A B : wS} {Q : wO → wS → Prop}
theorem CL_av {k kd bt : Int} (hC : w_CL S) (h : avH_ag k kd bt S Z) : w_CL Z := by
  intro q hq
  have hg : wG = 1000000 := rfl
  have h1 : ∀ q ∈ wz_n, q.1 < 237 ∧ (q.1 < 127 ∨ 136 < q.1) ∧ q.1 ≠ 141 ∧ q.1 ≠ 142 := by decide
  obtain ⟨a1, a2, a3, a4⟩ := h1 q hq
  exact (h.2.2.2.2.2.2.1 q.1 (-1) (by omega) (by omega) a3 a4 (Or.inl (by omega)) (Or.inr (by decide)) (Or.inr (by decide))).trans (hC q hq)
/-- while the values of a list come: i of sz have come -/
def lvI (w : Nat) (n sz st cs v0 i : Int) (S : wS) : Prop := (w_CL S ∧ gI S) ∧ (S 140 2 = cs ∧ 0 ≤ cs ∧ cs ≤ S 141 (-1) ∧ cs ≤ 240200) ∧ (S 142 (-1) = S 141 (-1) ∧ 16 ≤ S 141 (-1) ∧ S 141 (-1) ≤ 480400) ∧ (∀ x : Nat, x < 10 → S (127 + x) (-1) = S 127 (-1)) ∧ (0 ≤ n ∧ n < S 127 (-1) ∧ S 127 (-1) ≤ 16383) ∧ (S 133 n = st ∧ S 134 n = i ∧ S 135 n = sz ∧ 0 ≤ st ∧ st + sz ≤ cs) ∧ (S 150 1 = v0 + i ∧ 0 ≤ v0 ∧ v0 + sz ≤ 60000) ∧ (S (w + 3) (-1) = S (w + 2) (-1) ∧ S (w + 2) (-1) ≤ 4095)
theorem lvI_s {w : Nat} {n sz st cs v0 i kd bt : Int} (hw : w = 215 ∨ w = 226) (h : lvI w n sz st cs v0 i S) (hi : i < sz) (h0 : 0 ≤ i) (r : avH_ag n kd bt S Z) : lvI w n sz st cs v0 (i + 1) Z := by
  have hg : wG = 1000000 := rfl
  obtain ⟨⟨h1, h2⟩, ⟨c1, c2, c3, c4⟩, ⟨l1, l2, l3⟩, ht, ⟨n1, n2, n3⟩, ⟨s1, s2, s3, s4, s5⟩, ⟨v1, v2, v3⟩, w1, w2⟩ := h
  obtain ⟨⟨a1, a2⟩, b, -, -, -, ⟨f1, f2, f3, f4⟩, fr, gZ, -⟩ := id r
  have hb : Z 133 n = S 133 n ∧ Z 135 n = S 135 n ∧ Z 140 2 = S 140 2 := by
    rcases b with (⟨z0, z1, z2, z⟩ | ⟨z0, z3, z1, z2, z⟩) | ⟨z0, z1, z2, z⟩
    · exact ⟨z1, z2, z⟩
    · omega
    · omega
  have el : ∀ x : Nat, x < 10 → Z (127 + x) (-1) = S (127 + x) (-1) := fun x hx => fr (127 + x) (-1) (by omega) (by omega) (by omega) (by omega) (Or.inr (by omega)) (by omega) (by omega)
  have e7 := el 0 (by decide)
  replace e7 : Z 127 (-1) = S 127 (-1) := e7
  have ew : ∀ j : Nat, 160 < j → j < 237 → Z j (-1) = S j (-1) := fun j j0 j1 => fr j (-1) (by omega) (by omega) (by omega) (by omega) (by omega) (by omega) (by omega)
  refine ⟨⟨CL_av h1 r, gZ⟩, ⟨by omega, c2, by omega, c4⟩, ⟨f1, by omega, by omega⟩, fun x hx => ?_, ⟨n1, by omega, by omega⟩, ⟨by omega, by omega, by omega, s4, s5⟩, ⟨by omega, v2, v3⟩, ?_, ?_⟩
  · rw [el x hx, e7]; exact ht x hx
  · rw [ew (w + 3) (by omega) (by omega), ew (w + 2) (by omega) (by omega)]; exact w1
  · rw [ew (w + 2) (by omega) (by omega)]; exact w2
theorem avL_fr {w : Nat} {k fi : Int} (hk : 0 ≤ k) : ∀ (r : Nat) (i : Int) (S : wS), avL w k fi r i S Z → ∀ (j : Nat) (x : Int), j < 4000000 → j ≠ wG → j ≠ 141 → j ≠ 142 → ((j < 133 ∨ 135 < j) ∨ x ≠ k) → (j ≠ 140 ∨ x ≠ 2) → (j ≠ 150 ∨ x ≠ 1) → Z j x = S j x
  | 0, _, S, h, j, x, _, _, _, _, _, _, _ => by rw [show S = Z from h]
  | r + 1, i, S, h, j, x, j0, j1, j2, j3, j4, j5, j6 => by
    obtain ⟨A, h1, h2⟩ := h
    exact (avL_fr hk r (i + 1) A h2 j x j0 j1 j2 j3 j4 j5 j6).trans (h1.2.2.2.2.2.2.1 j x j0 j1 j2 j3 (by omega) j5 j6)
theorem avL_gi {w : Nat} {k fi : Int} : ∀ (r : Nat) (i : Int) (S : wS), avL w k fi r i S Z → gI S → gI Z ∧ rmR S Z
  | 0, _, S, h, g => by rw [← show S = Z from h]; exact ⟨g, rmR_rfl _⟩
  | r + 1, i, S, h, _ => by
    obtain ⟨A, h1, h2⟩ := h
    have := avL_gi r (i + 1) A h2 h1.2.2.2.2.2.2.2.1
    exact ⟨this.1, rmR_tr h1.2.2.2.2.2.2.2.2 this.2⟩
theorem ll_215 {n sz st cs v0 fi : Int} (hfi : 0 ≤ fi ∧ fi + sz ≤ 8192) : ∀ (r : Nat) (i : Int) (S : wS), i + (r : Int) = sz → 0 ≤ i → fi + sz ≤ S 217 (-1) → lvI 215 n sz st cs v0 i S → (∀ Z : wS, avL 215 n fi r i S Z → lvI 215 n sz st cs v0 sz Z → wJ (pe_GA xs) wY0 (mS [217, 218, 127, 128, 129, 130, 131, 132, 133, 134, 135, 136, 141, 142]) (d + 6) t_XK_makeList ((pe_at t_XK_makeList.bl 4).getD (0, [])).2 [(0, (2, 215)), (1, (0, sz)), (2, (0, n)), (3, (0, fi)), (4, (0, sz))] [] Z Q) → wJ (pe_GA xs) wY0 (mS [217, 218, 127, 128, 129, 130, 131, 132, 133, 134, 135, 136, 141, 142]) (d + 6) t_XK_makeList ((pe_at t_XK_makeList.bl 3).getD (0, [])).2 [(0, (2, 215)), (1, (0, sz)), (2, (0, n)), (3, (0, fi)), (4, (0, i))] [] S Q := by
  intro r
  induction r with
  | zero =>
    intro i S h1 h2 h3 hv hk
    have hiv : i = sz := by omega
    obtain ⟨-, -, -, -, -, -, ⟨-, hv2, hv3⟩, -⟩ := id hv
    refine wa_iload (n := 4) rfl ?_
    refine wa_iload_n (n := 1) rfl ?_
    refine wa_icmpge (w_rg0 (by omega) (by omega)) (w_rg0 (by omega) (by omega)) ⟨_, rfl⟩ (fun c1 => ?_) (fun c1 => ?_)
    · skip
      subst hiv
      exact wJ_S (hk S rfl hv) ⟨rfl, rfl, rfl, rfl, rfl, trivial⟩
    · skip
      exfalso; omega
  | succ r ih =>
    intro i S h1 h2 h3 hv hk
    have hg : wG = 1000000 := rfl
    obtain ⟨⟨hC, hI⟩, ⟨c1, c2, c3, c4⟩, ⟨l1, l2, l3⟩, hth, ⟨n1, n2, n3⟩, ⟨s1, s2, s3, s4, s5⟩, ⟨v1, v2, v3⟩, w1, w2⟩ := id hv
    replace w1 : S 218 (-1) = S 217 (-1) := w1
    replace w2 : S 217 (-1) ≤ 4095 := w2
    refine wa_iload (n := 4) rfl ?_
    refine wa_iload_n (n := 1) rfl ?_
    refine wa_icmpge (w_rg0 (by omega) (by omega)) (w_rg0 (by omega) (by omega)) ⟨_, rfl⟩ (fun c301 => ?_) (fun c301 => ?_)
    · skip
      exfalso; omega
    · skip
      refine wa_aload_n (n := 0) rfl ?_
      refine wb_gf4 215 rfl (wy_pr rfl) wt_215 wf_8_0 (v := 72) wl_215_0 ?_
      refine wa_iload_n (n := 2) rfl ?_
      refine wa_aload_n (n := 0) rfl ?_
      refine wb_gf4 215 rfl (wy_pr rfl) wt_215 wf_8_3 (v := 216) wl_215_3 ?_
      refine wb_gf4 216 rfl (wy_pr rfl) wt_216 wf_7_0 (v := 217) wl_216_0 ?_
      refine wa_iload_n (n := 3) rfl ?_
      refine wa_iload (n := 4) rfl ?_
      refine wa_iadd ?_
      refine wb_bald 217 rfl (wy_pr rfl) wt_217 (n := (S 217 (-1))) (rfl) (by omega) (by omega) (v := (S 217 (fi + i))) rfl (fun r302 => ?_)
      refine wa_aload_n (n := 0) rfl ?_
      refine wb_gf4 215 rfl (wy_pr rfl) wt_215 wf_8_3 (v := 216) wl_215_3 ?_
      refine wb_gf4 216 rfl (wy_pr rfl) wt_216 wf_7_1 (v := 218) wl_216_1 ?_
      refine wa_iload_n (n := 3) rfl ?_
      refine wa_iload (n := 4) rfl ?_
      refine wa_iadd ?_
      refine wb_lald 218 rfl (wy_pr rfl) wt_218 (n := (S 217 (-1))) (w1) (by omega) (by omega) (v := (S 218 (fi + i))) rfl (fun r303 => ?_)
      refine wa_cv 72 rfl (wy_pr rfl) wt_72 (M2 := mS [141, 142]) rfl at_XH_addValue ⟨_, rfl⟩ rfl rfl ⟨(Or.inr ⟨wy_pr rfl, mS_no rfl⟩), trivial, trivial, trivial, trivial, trivial⟩ trivial (fun _ _ q => mS_sub (by decide) q) (avH_ok (S := S) (k := n) (kd := (S 217 (fi + i))) (bt := (S 218 (fi + i))) (st := st) (sz := i) (rm := sz) (cs := cs) (v0 := v0 + i) hC hI c1 ⟨by omega, by omega⟩ l1 ⟨by omega, by omega⟩ hth ⟨by omega, by omega⟩ n3 s1 s2 s3 ⟨by omega, by omega, by omega, by omega⟩ v1 ⟨by omega, by omega⟩ (by omega) ⟨by omega, by omega⟩ ⟨by omega, by omega⟩) (fun oq304 Sq304 hp305 q304 => ?_)
      rcases q304 with ⟨rfl, av304⟩
      show wJ _ _ _ _ _ _ _ _ _ _
      refine wa_iinc rfl rfl ?_
      refine wa_goto ⟨_, rfl⟩ ?_
      have e2 : Sq304 217 (-1) = S 217 (-1) := av304.2.2.2.2.2.2.1 217 (-1) (by decide) (by decide) (by decide) (by decide) (Or.inl (by decide)) (by decide) (by decide)
      exact wJ_S (ih (i + 1) Sq304 (by omega) (by omega) (by rw [e2]; exact h3) (lvI_s (Or.inl rfl) hv (by omega) h2 av304) (fun Z hz hzi => hk Z ⟨Sq304, av304, hz⟩ hzi)) ⟨rfl, rfl, rfl, rfl, rfl, trivial⟩
set_option maxHeartbeats 4000000 in
theorem mL_215 {c p h cs n u0 v0 a : Int} (hP : xP 215 c p h S) (hx1 : pe_at (pe_GA xs).xs 1 = some (1, tx_1)) (h2 : S 140 2 = cs) (hcs : 0 ≤ cs ∧ cs ≤ S 141 (-1)) (hl : S 142 (-1) = S 141 (-1)) (hz : 16 ≤ S 141 (-1) ∧ S 141 (-1) ≤ 480400) (hth : ∀ x : Nat, x < 10 → S (127 + x) (-1) = S 127 (-1)) (hn : S 72 3 = n) (hn1 : 0 ≤ n ∧ n ≤ S 127 (-1)) (hn2 : 64 ≤ S 127 (-1) ∧ S 127 (-1) ≤ 16383) (hu0 : S 150 0 = u0) (hu1 : 0 ≤ u0 ∧ u0 ≤ 8000) (hv0 : S 150 1 = v0) (hv1 : 0 ≤ v0 ∧ v0 ≤ 60000) (ha : 0 ≤ a ∧ a ≤ h) (hc5 : cs ≤ 4 * v0) (hn8 : n ≤ 8000) : wJ (pe_GA xs) wY0 (mS [217, 218, 127, 128, 129, 130, 131, 132, 133, 134, 135, 136, 141, 142]) (d + 10) t_XK_makeList ((pe_at t_XK_makeList.bl 0).getD (0, [])).2 [(0, (2, 215)), (1, (0, a))] [] S (fun o Z => o = .inl none ∧ (((8000 ≤ u0 ∨ 60000 < v0 + a) ∧ w_up S 215 16 99 = Z) ∨ (u0 < 8000 ∧ v0 + a ≤ 60000 ∧ ∃ A B : wS, at_ag 6 (-1) (-1) a S A ∧ avL 215 n (h - a) a.toNat 0 A B ∧ lvI 215 n a cs (cs + a) v0 a B ∧ sO 215 h c p a 6 n B Z))) := by
  obtain ⟨⟨hC, hI⟩, ⟨bc, bc0, bc1⟩, ⟨bp, bp0, bp1⟩, ⟨bh, bh0, bh1, bh2⟩, bl1, bl2, bl3⟩ := id hP
  replace bp : S 220 (c - 1) = p := bp
  replace bh : S 216 2 = h := bh
  replace bh2 : h ≤ S 217 (-1) := bh2
  replace bl1 : S 218 (-1) = S 217 (-1) := bl1
  replace bl2 : 64 ≤ S 217 (-1) := bl2
  replace bl3 : S 217 (-1) ≤ 4095 := bl3
  refine wa_aload_n (n := 0) rfl ?_
  refine wb_gf4 215 rfl (wy_pr rfl) wt_215 wf_8_0 (v := 72) wl_215_0 ?_
  refine wa_iconst ?_
  refine wa_iconst ?_
  refine wa_cv 72 rfl (wy_pr rfl) wt_72 (M2 := mS [217, 218, 127, 128, 129, 130, 131, 132, 133, 134, 135, 136, 141, 142]) rfl at_XH_hasRoom ⟨_, rfl⟩ rfl rfl ⟨(Or.inr ⟨wy_pr rfl, mS_no rfl⟩), trivial, trivial⟩ trivial (fun _ _ q => q) ?_ (fun _ _ _ q => q)
  refine wa_aload_n (n := 0) rfl ?_
  refine wb_gf4 72 rfl (wy_pr rfl) wt_72 wf_2_10 (v := 150) wl_72_10 ?_
  refine wa_iload_n (n := 1) rfl ?_
  refine wb_iald 150 rfl (wy_pr rfl) wt_150 (n := 6) ((cl_150 hC)) (by omega) (by omega) (v := u0) (hu0) (fun r1 => ?_)
  refine wa_iload_n (n := 2) rfl ?_
  refine wa_iadd ?_
  refine wa_gs ?_
  refine wa_iload_n (n := 1) rfl ?_
  refine wb_xald 1 rfl hx1 (by decide) (by omega) (by decide) (v := 8000) (by decide) (fun r2 => ?_)
  refine wa_icmpgt (w_rg0 (by omega) (by omega)) (w_rg0 (by omega) (by omega)) ⟨_, rfl⟩ (fun c3 => ?_) (fun c3 => ?_)
  · skip
    refine wa_iconst ?_
    refine wa_fall ⟨_, rfl⟩ ?_
    refine wa_zreturn rfl (Or.inl rfl) ?_
    show wJ _ _ _ _ _ _ _ _ _ _
    refine wa_ifeq (w_rg0 (by omega) (by omega)) ⟨_, rfl⟩ (fun c4 => ?_) (fun c4 => ?_)
    · skip
      refine wa_aload_n (n := 0) rfl ?_
      refine wa_bipush (w_rg2 (by omega) (by omega)) ?_
      refine wb_pfi 215 rfl (wy_pr rfl) wt_215 wf_8_16 (n := 16) rfl ⟨(by omega), (by omega)⟩ ?_
      refine wa_return rfl ?_
      exact ⟨rfl, Or.inl ⟨by omega, rfl⟩⟩
    · skip
      exact absurd c4 (by omega)
  · skip
    refine wa_iconst ?_
    refine wa_goto ⟨_, rfl⟩ ?_
    refine wa_zreturn rfl (Or.inr rfl) ?_
    show wJ _ _ _ _ _ _ _ _ _ _
    refine wa_ifeq (w_rg0 (by omega) (by omega)) ⟨_, rfl⟩ (fun c5 => ?_) (fun c5 => ?_)
    · skip
      exact absurd c5 (by omega)
    · skip
      refine wa_aload_n (n := 0) rfl ?_
      refine wb_gf4 215 rfl (wy_pr rfl) wt_215 wf_8_0 (v := 72) wl_215_0 ?_
      refine wa_iconst ?_
      refine wa_iload_n (n := 1) rfl ?_
      refine wa_cv 72 rfl (wy_pr rfl) wt_72 (M2 := mS [217, 218, 127, 128, 129, 130, 131, 132, 133, 134, 135, 136, 141, 142]) rfl at_XH_hasRoom ⟨_, rfl⟩ rfl rfl ⟨(Or.inr ⟨wy_pr rfl, mS_no rfl⟩), trivial, trivial⟩ trivial (fun _ _ q => q) ?_ (fun _ _ _ q => q)
      refine wa_aload_n (n := 0) rfl ?_
      refine wb_gf4 72 rfl (wy_pr rfl) wt_72 wf_2_10 (v := 150) wl_72_10 ?_
      refine wa_iload_n (n := 1) rfl ?_
      refine wb_iald 150 rfl (wy_pr rfl) wt_150 (n := 6) ((cl_150 hC)) (by omega) (by omega) (v := v0) (hv0) (fun r6 => ?_)
      refine wa_iload_n (n := 2) rfl ?_
      refine wa_iadd ?_
      refine wa_gs ?_
      refine wa_iload_n (n := 1) rfl ?_
      refine wb_xald 1 rfl hx1 (by decide) (by omega) (by decide) (v := 60000) (by decide) (fun r7 => ?_)
      refine wa_icmpgt (w_rg0 (by omega) (by omega)) (w_rg0 (by omega) (by omega)) ⟨_, rfl⟩ (fun c8 => ?_) (fun c8 => ?_)
      · skip
        refine wa_iconst ?_
        refine wa_fall ⟨_, rfl⟩ ?_
        refine wa_zreturn rfl (Or.inl rfl) ?_
        show wJ _ _ _ _ _ _ _ _ _ _
        refine wa_ifne (w_rg0 (by omega) (by omega)) ⟨_, rfl⟩ (fun c9 => ?_) (fun c9 => ?_)
        · skip
          exact absurd c9 (by omega)
        · skip
          refine wa_fall ⟨_, rfl⟩ ?_
          refine wa_aload_n (n := 0) rfl ?_
          refine wa_bipush (w_rg2 (by omega) (by omega)) ?_
          refine wb_pfi 215 rfl (wy_pr rfl) wt_215 wf_8_16 (n := 16) rfl ⟨(by omega), (by omega)⟩ ?_
          refine wa_return rfl ?_
          exact ⟨rfl, Or.inl ⟨by omega, rfl⟩⟩
      · skip
        refine wa_iconst ?_
        refine wa_goto ⟨_, rfl⟩ ?_
        refine wa_zreturn rfl (Or.inr rfl) ?_
        show wJ _ _ _ _ _ _ _ _ _ _
        refine wa_ifne (w_rg0 (by omega) (by omega)) ⟨_, rfl⟩ (fun c10 => ?_) (fun c10 => ?_)
        · skip
          refine wa_aload_n (n := 0) rfl ?_
          refine wb_gf4 215 rfl (wy_pr rfl) wt_215 wf_8_0 (v := 72) wl_215_0 ?_
          refine wa_bipush (w_rg2 (by omega) (by omega)) ?_
          refine wa_iconst ?_
          refine wa_iconst ?_
          refine wa_iload_n (n := 1) rfl ?_
          have at11a : S 141 (-1) = (S 141 (-1)) := (rfl)
          have at11b : S 142 (-1) = S 141 (-1) := ((hl) : S 142 (-1) = (S 141 (-1))).trans at11a.symm
          have at11c : S 127 (-1) = (S 127 (-1)) := (rfl)
          have at11d : ∀ x : Nat, x < 10 → S (127 + x) (-1) = S 127 (-1) := hth
          refine wa_cv 72 rfl (wy_pr rfl) wt_72 (M2 := mS [127, 128, 129, 130, 131, 132, 133, 134, 135, 136, 141, 142]) rfl at_XH_addThing ⟨_, rfl⟩ rfl rfl ⟨(Or.inr ⟨wy_pr rfl, mS_no rfl⟩), trivial, trivial⟩ trivial (fun _ _ q => mS_sub (by decide) q) (atH_ok (S := S) (kd := 6) (sh := (-1)) (fo := (-1)) (rm := a) (cs := cs) (n := n) (u0 := u0) hC hI (h2) ⟨by omega, by omega⟩ at11b ⟨by omega, by omega⟩ at11d (hn) ⟨by omega, by omega⟩ ⟨by omega, by omega⟩ (hu0) ⟨by omega, by omega⟩ ⟨by omega, by omega⟩ ⟨by omega, by omega⟩ ⟨by omega, by omega⟩ ⟨by omega, by omega⟩) (fun oq11 Sq11 hp12 q11 => ?_)
          rcases q11 with ⟨rfl, at11⟩
          show wJ _ _ _ _ _ _ _ _ _ _
          have at11e := at11.2.2.2.2.2.2.1.2
          have at11f := at11.2.2.2.2.2.1
          refine wa_istore_n (n := 2) rfl ?_
          refine wa_aload_n (n := 0) rfl ?_
          refine wb_gf4 215 rfl (wy_pr rfl) wt_215 wf_8_3 (v := 216) wl_215_3 ?_
          refine wb_gfi 216 rfl (wy_pr rfl) wt_216 wf_7_2 (v := h) (((at11.2.2.2.2.2.2.2.1 216 2 (by decide) (by decide) (by decide) (by decide) (by decide) (Or.inl (by decide)) (Or.inl (by decide)) (Or.inl (by decide))).trans (bh))) (fun r13 => ?_)
          refine wa_iload_n (n := 1) rfl ?_
          refine wa_isub ?_
          refine wa_istore_n (n := 3) rfl ?_
          refine wa_iconst ?_
          refine wa_istore (n := 4) rfl ?_
          refine wa_fall ⟨_, rfl⟩ ?_
          have zl2 : Sq11 217 (-1) = S 217 (-1) := (((at11.2.2.2.2.2.2.2.1 217 (-1) (by decide) (by decide) (by decide) (by decide) (by decide) (Or.inl (by decide)) (Or.inl (by decide)) (Or.inl (by decide))).trans (rfl)))
          have zl3 : Sq11 218 (-1) = Sq11 217 (-1) := ((((at11.2.2.2.2.2.2.2.1 218 (-1) (by decide) (by decide) (by decide) (by decide) (by decide) (Or.inl (by decide)) (Or.inl (by decide)) (Or.inl (by decide))).trans (bl1))) : Sq11 218 (-1) = S 217 (-1)).trans zl2.symm
          obtain ⟨⟨y1, y2⟩, ⟨-, -, y3, y4, y5, -⟩, -, y6, -, ⟨y7, y8, y9, y10⟩, ⟨y11, y12, y13, y14⟩, yf, yg, yr⟩ := id at11
          rw [hn, h2] at y3
          rw [hn] at y4 y5 y12 y14
          rw [h2] at y6 y8 y10
          have hLI : lvI 215 n a cs (cs + a) v0 0 Sq11 := ⟨⟨(CL_at hC at11), yg⟩, ⟨y6, by omega, by omega, by omega⟩, ⟨y7, by omega, by omega⟩, y11, ⟨by omega, y12, by omega⟩, ⟨y3, y4, y5, by omega, by omega⟩, ⟨((((at11.2.2.2.2.2.2.2.1 150 1 (by decide) (by decide) (by decide) (by decide) (by decide) (Or.inl (by decide)) (Or.inl (by decide)) (Or.inr (by decide))).trans (hv0))) : Sq11 150 1 = v0).trans (by omega), by omega, by omega⟩, zl3, by show Sq11 217 (-1) ≤ 4095; omega⟩
          refine wJ_S (ll_215 (n := n) (sz := a) (st := cs) (cs := cs + a) (v0 := v0) (fi := h - a) ⟨by omega, by omega⟩ a.toNat 0 Sq11 (by omega) (by omega) (by omega) hLI (fun Zb hav hLb => ?_)) ⟨rfl, rfl, rfl, rfl, rfl, trivial⟩
          have avf := avL_fr (by omega) _ _ _ hav
          have avg := avL_gi _ _ _ hav yg
          obtain ⟨⟨hCb, hIb⟩, -⟩ := id hLb
          refine wa_aload_n (n := 0) rfl ?_
          refine wa_iload_n (n := 1) rfl ?_
          refine wa_bipush (w_rg2 (by omega) (by omega)) ?_
          refine wa_iload_n (n := 2) rfl ?_
          refine wa_i2l (w_rg0 (by omega) (by omega)) ?_
          refine wa_cv 215 rfl (wy_pr rfl) wt_215 (M2 := mS [217, 218]) rfl at_XK_give ⟨_, rfl⟩ rfl rfl ⟨(Or.inr ⟨wy_pr rfl, mS_no rfl⟩), trivial, trivial, trivial, trivial, trivial⟩ trivial (fun _ _ q => mS_sub (by decide) q) (gw_215 (S := Zb) (n := a) (k := 6) (v := n) (h := h) (c := c) (p := p) (ln := (S 217 (-1))) hCb hIb ⟨by omega, by omega⟩ ⟨by omega, by omega⟩ (((avf 216 2 (by decide) (by decide) (by decide) (by decide) (Or.inl (by decide)) (Or.inl (by decide)) (Or.inl (by decide))).trans (((at11.2.2.2.2.2.2.2.1 216 2 (by decide) (by decide) (by decide) (by decide) (by decide) (Or.inl (by decide)) (Or.inl (by decide)) (Or.inl (by decide))).trans (bh))))) (((avf 215 4 (by decide) (by decide) (by decide) (by decide) (Or.inl (by decide)) (Or.inl (by decide)) (Or.inl (by decide))).trans (((at11.2.2.2.2.2.2.2.1 215 4 (by decide) (by decide) (by decide) (by decide) (by decide) (Or.inl (by decide)) (Or.inl (by decide)) (Or.inl (by decide))).trans (bc))))) (((avf 220 (c - 1) (by decide) (by decide) (by decide) (by decide) (Or.inl (by decide)) (Or.inl (by decide)) (Or.inl (by decide))).trans (((at11.2.2.2.2.2.2.2.1 220 (c - 1) (by decide) (by decide) (by decide) (by decide) (by decide) (Or.inl (by decide)) (Or.inl (by decide)) (Or.inl (by decide))).trans (bp))))) (((avf 217 (-1) (by decide) (by decide) (by decide) (by decide) (Or.inl (by decide)) (Or.inl (by decide)) (Or.inl (by decide))).trans (((at11.2.2.2.2.2.2.2.1 217 (-1) (by decide) (by decide) (by decide) (by decide) (by decide) (Or.inl (by decide)) (Or.inl (by decide)) (Or.inl (by decide))).trans (rfl))))) (((avf 218 (-1) (by decide) (by decide) (by decide) (by decide) (Or.inl (by decide)) (Or.inl (by decide)) (Or.inl (by decide))).trans (((at11.2.2.2.2.2.2.2.1 218 (-1) (by decide) (by decide) (by decide) (by decide) (by decide) (Or.inl (by decide)) (Or.inl (by decide)) (Or.inl (by decide))).trans (bl1))))) ⟨by omega, by omega⟩ ⟨by omega, by omega, by omega⟩ ⟨by omega, by omega⟩ ⟨by omega, by omega⟩) (fun oq14 Sq14 hp15 q14 => ?_)
          rcases q14 with ⟨rfl, A14, ra14, rfl⟩
          show wJ _ _ _ _ _ _ _ _ _ _
          refine wa_return rfl ?_
          exact ⟨rfl, Or.inr ⟨by omega, by omega, Sq11, Zb, at11, hav, hLb, A14, ra14, rfl⟩⟩
        · skip
          exact absurd c10 (by omega)
theorem x25_215 {c p h a b cs n u0 v0 : Int} (hP : xP 215 c p h S) (hab : (-2147483648 ≤ a ∧ a ≤ 2147483647) ∧ (-2147483648 ≤ b ∧ b ≤ 2147483647)) (hx1 : pe_at (pe_GA xs).xs 1 = some (1, tx_1)) (h2 : S 140 2 = cs) (hcs : 0 ≤ cs ∧ cs ≤ S 141 (-1)) (hl : S 142 (-1) = S 141 (-1)) (hz : 16 ≤ S 141 (-1) ∧ S 141 (-1) ≤ 480400) (hth : ∀ x : Nat, x < 10 → S (127 + x) (-1) = S 127 (-1)) (hn : S 72 3 = n) (hn1 : 0 ≤ n ∧ n ≤ S 127 (-1)) (hn2 : 64 ≤ S 127 (-1) ∧ S 127 (-1) ≤ 16383) (hu0 : S 150 0 = u0) (hu1 : 0 ≤ u0 ∧ u0 ≤ 8000) (hv0 : S 150 1 = v0) (hv1 : 0 ≤ v0 ∧ v0 ≤ 60000) (ha : 0 ≤ a ∧ a ≤ h) (hc5 : cs ≤ 4 * v0) (hn8 : n ≤ 8000) : wJ (pe_GA xs) wY0 (mS [217, 218, 127, 128, 129, 130, 131, 132, 133, 134, 135, 136, 141, 142]) (d + 11) t_XK_perform ((pe_at t_XK_perform.bl 0).getD (0, [])).2 [(0, (2, 215)), (1, (0, 25)), (2, (0, a)), (3, (0, b))] [] S (fun o Z => o = .inl none ∧ (((8000 ≤ u0 ∨ 60000 < v0 + a) ∧ w_up S 215 16 99 = Z) ∨ (u0 < 8000 ∧ v0 + a ≤ 60000 ∧ ∃ A B : wS, at_ag 6 (-1) (-1) a S A ∧ avL 215 n (h - a) a.toNat 0 A B ∧ lvI 215 n a cs (cs + a) v0 a B ∧ sO 215 h c p a 6 n B Z))) := by
  obtain ⟨⟨hC, hI⟩, ⟨bc, bc0, bc1⟩, ⟨bp, bp0, bp1⟩, ⟨bh, bh0, bh1, bh2⟩, bl1, bl2, bl3⟩ := id hP
  replace bp : S 220 (c - 1) = p := bp
  replace bh : S 216 2 = h := bh
  replace bh2 : h ≤ S 217 (-1) := bh2
  replace bl1 : S 218 (-1) = S 217 (-1) := bl1
  replace bl2 : 64 ≤ S 217 (-1) := bl2
  replace bl3 : S 217 (-1) ≤ 4095 := bl3
  have hP2 := id hP
  refine wa_aload_n (n := 0) rfl ?_
  refine wb_gf4 215 rfl (wy_pr rfl) wt_215 wf_8_3 (v := 216) wl_215_3 ?_
  refine wb_gfi 216 rfl (wy_pr rfl) wt_216 wf_7_2 (v := h) (bh) (fun r1 => ?_)
  refine wa_iconst ?_
  refine wa_isub ?_
  refine wa_istore (n := 4) rfl ?_
  refine wa_iload_n (n := 1) rfl ?_
  refine wb_sw (w_rg0 (by omega) (by omega)) (tb := 9) rfl ⟨_, rfl⟩ ?_
  refine wa_aload_n (n := 0) rfl ?_
  refine wa_iload_n (n := 2) rfl ?_
  refine wa_cv 215 rfl (wy_pr rfl) wt_215 (M2 := mS [217, 218, 127, 128, 129, 130, 131, 132, 133, 134, 135, 136, 141, 142]) rfl at_XK_makeList ⟨_, rfl⟩ rfl rfl ⟨trivial, (Or.inr ⟨wy_pr rfl, mS_no rfl⟩), trivial, trivial, trivial, trivial⟩ trivial (fun _ _ q => q) (mL_215 hP hx1 h2 hcs hl hz hth hn hn1 hn2 hu0 hu1 hv0 hv1 ha hc5 hn8) (fun oq2 Sq2 hp3 q2 => ?_)
  rcases q2 with ⟨rfl, hzz⟩
  show wJ _ _ _ _ _ _ _ _ _ _
  refine wa_goto ⟨_, rfl⟩ ?_
  refine wa_return rfl ?_
  exact ⟨rfl, hzz⟩
theorem ll_226 {n sz st cs v0 fi : Int} (hfi : 0 ≤ fi ∧ fi + sz ≤ 8192) : ∀ (r : Nat) (i : Int) (S : wS), i + (r : Int) = sz → 0 ≤ i → fi + sz ≤ S 228 (-1) → lvI 226 n sz st cs v0 i S → (∀ Z : wS, avL 226 n fi r i S Z → lvI 226 n sz st cs v0 sz Z → wJ (pe_GA xs) wY0 (mS [228, 229, 127, 128, 129, 130, 131, 132, 133, 134, 135, 136, 141, 142]) (d + 6) t_XK_makeList ((pe_at t_XK_makeList.bl 4).getD (0, [])).2 [(0, (2, 226)), (1, (0, sz)), (2, (0, n)), (3, (0, fi)), (4, (0, sz))] [] Z Q) → wJ (pe_GA xs) wY0 (mS [228, 229, 127, 128, 129, 130, 131, 132, 133, 134, 135, 136, 141, 142]) (d + 6) t_XK_makeList ((pe_at t_XK_makeList.bl 3).getD (0, [])).2 [(0, (2, 226)), (1, (0, sz)), (2, (0, n)), (3, (0, fi)), (4, (0, i))] [] S Q := by
  intro r
  induction r with
  | zero =>
    intro i S h1 h2 h3 hv hk
    have hiv : i = sz := by omega
    obtain ⟨-, -, -, -, -, -, ⟨-, hv2, hv3⟩, -⟩ := id hv
    refine wa_iload (n := 4) rfl ?_
    refine wa_iload_n (n := 1) rfl ?_
    refine wa_icmpge (w_rg0 (by omega) (by omega)) (w_rg0 (by omega) (by omega)) ⟨_, rfl⟩ (fun c1 => ?_) (fun c1 => ?_)
    · skip
      subst hiv
      exact wJ_S (hk S rfl hv) ⟨rfl, rfl, rfl, rfl, rfl, trivial⟩
    · skip
      exfalso; omega
  | succ r ih =>
    intro i S h1 h2 h3 hv hk
    have hg : wG = 1000000 := rfl
    obtain ⟨⟨hC, hI⟩, ⟨c1, c2, c3, c4⟩, ⟨l1, l2, l3⟩, hth, ⟨n1, n2, n3⟩, ⟨s1, s2, s3, s4, s5⟩, ⟨v1, v2, v3⟩, w1, w2⟩ := id hv
    replace w1 : S 229 (-1) = S 228 (-1) := w1
    replace w2 : S 228 (-1) ≤ 4095 := w2
    refine wa_iload (n := 4) rfl ?_
    refine wa_iload_n (n := 1) rfl ?_
    refine wa_icmpge (w_rg0 (by omega) (by omega)) (w_rg0 (by omega) (by omega)) ⟨_, rfl⟩ (fun c301 => ?_) (fun c301 => ?_)
    · skip
      exfalso; omega
    · skip
      refine wa_aload_n (n := 0) rfl ?_
      refine wb_gf4 226 rfl (wy_pr rfl) wt_226 wf_8_0 (v := 72) wl_226_0 ?_
      refine wa_iload_n (n := 2) rfl ?_
      refine wa_aload_n (n := 0) rfl ?_
      refine wb_gf4 226 rfl (wy_pr rfl) wt_226 wf_8_3 (v := 227) wl_226_3 ?_
      refine wb_gf4 227 rfl (wy_pr rfl) wt_227 wf_7_0 (v := 228) wl_227_0 ?_
      refine wa_iload_n (n := 3) rfl ?_
      refine wa_iload (n := 4) rfl ?_
      refine wa_iadd ?_
      refine wb_bald 228 rfl (wy_pr rfl) wt_228 (n := (S 228 (-1))) (rfl) (by omega) (by omega) (v := (S 228 (fi + i))) rfl (fun r302 => ?_)
      refine wa_aload_n (n := 0) rfl ?_
      refine wb_gf4 226 rfl (wy_pr rfl) wt_226 wf_8_3 (v := 227) wl_226_3 ?_
      refine wb_gf4 227 rfl (wy_pr rfl) wt_227 wf_7_1 (v := 229) wl_227_1 ?_
      refine wa_iload_n (n := 3) rfl ?_
      refine wa_iload (n := 4) rfl ?_
      refine wa_iadd ?_
      refine wb_lald 229 rfl (wy_pr rfl) wt_229 (n := (S 228 (-1))) (w1) (by omega) (by omega) (v := (S 229 (fi + i))) rfl (fun r303 => ?_)
      refine wa_cv 72 rfl (wy_pr rfl) wt_72 (M2 := mS [141, 142]) rfl at_XH_addValue ⟨_, rfl⟩ rfl rfl ⟨(Or.inr ⟨wy_pr rfl, mS_no rfl⟩), trivial, trivial, trivial, trivial, trivial⟩ trivial (fun _ _ q => mS_sub (by decide) q) (avH_ok (S := S) (k := n) (kd := (S 228 (fi + i))) (bt := (S 229 (fi + i))) (st := st) (sz := i) (rm := sz) (cs := cs) (v0 := v0 + i) hC hI c1 ⟨by omega, by omega⟩ l1 ⟨by omega, by omega⟩ hth ⟨by omega, by omega⟩ n3 s1 s2 s3 ⟨by omega, by omega, by omega, by omega⟩ v1 ⟨by omega, by omega⟩ (by omega) ⟨by omega, by omega⟩ ⟨by omega, by omega⟩) (fun oq304 Sq304 hp305 q304 => ?_)
      rcases q304 with ⟨rfl, av304⟩
      show wJ _ _ _ _ _ _ _ _ _ _
      refine wa_iinc rfl rfl ?_
      refine wa_goto ⟨_, rfl⟩ ?_
      have e2 : Sq304 228 (-1) = S 228 (-1) := av304.2.2.2.2.2.2.1 228 (-1) (by decide) (by decide) (by decide) (by decide) (Or.inl (by decide)) (by decide) (by decide)
      exact wJ_S (ih (i + 1) Sq304 (by omega) (by omega) (by rw [e2]; exact h3) (lvI_s (Or.inr rfl) hv (by omega) h2 av304) (fun Z hz hzi => hk Z ⟨Sq304, av304, hz⟩ hzi)) ⟨rfl, rfl, rfl, rfl, rfl, trivial⟩
set_option maxHeartbeats 4000000 in
theorem mL_226 {c p h cs n u0 v0 a : Int} (hP : xP 226 c p h S) (hx1 : pe_at (pe_GA xs).xs 1 = some (1, tx_1)) (h2 : S 140 2 = cs) (hcs : 0 ≤ cs ∧ cs ≤ S 141 (-1)) (hl : S 142 (-1) = S 141 (-1)) (hz : 16 ≤ S 141 (-1) ∧ S 141 (-1) ≤ 480400) (hth : ∀ x : Nat, x < 10 → S (127 + x) (-1) = S 127 (-1)) (hn : S 72 3 = n) (hn1 : 0 ≤ n ∧ n ≤ S 127 (-1)) (hn2 : 64 ≤ S 127 (-1) ∧ S 127 (-1) ≤ 16383) (hu0 : S 150 0 = u0) (hu1 : 0 ≤ u0 ∧ u0 ≤ 8000) (hv0 : S 150 1 = v0) (hv1 : 0 ≤ v0 ∧ v0 ≤ 60000) (ha : 0 ≤ a ∧ a ≤ h) (hc5 : cs ≤ 4 * v0) (hn8 : n ≤ 8000) : wJ (pe_GA xs) wY0 (mS [228, 229, 127, 128, 129, 130, 131, 132, 133, 134, 135, 136, 141, 142]) (d + 10) t_XK_makeList ((pe_at t_XK_makeList.bl 0).getD (0, [])).2 [(0, (2, 226)), (1, (0, a))] [] S (fun o Z => o = .inl none ∧ (((8000 ≤ u0 ∨ 60000 < v0 + a) ∧ w_up S 226 16 99 = Z) ∨ (u0 < 8000 ∧ v0 + a ≤ 60000 ∧ ∃ A B : wS, at_ag 6 (-1) (-1) a S A ∧ avL 226 n (h - a) a.toNat 0 A B ∧ lvI 226 n a cs (cs + a) v0 a B ∧ sO 226 h c p a 6 n B Z))) := by
  obtain ⟨⟨hC, hI⟩, ⟨bc, bc0, bc1⟩, ⟨bp, bp0, bp1⟩, ⟨bh, bh0, bh1, bh2⟩, bl1, bl2, bl3⟩ := id hP
  replace bp : S 231 (c - 1) = p := bp
  replace bh : S 227 2 = h := bh
  replace bh2 : h ≤ S 228 (-1) := bh2
  replace bl1 : S 229 (-1) = S 228 (-1) := bl1
  replace bl2 : 64 ≤ S 228 (-1) := bl2
  replace bl3 : S 228 (-1) ≤ 4095 := bl3
  refine wa_aload_n (n := 0) rfl ?_
  refine wb_gf4 226 rfl (wy_pr rfl) wt_226 wf_8_0 (v := 72) wl_226_0 ?_
  refine wa_iconst ?_
  refine wa_iconst ?_
  refine wa_cv 72 rfl (wy_pr rfl) wt_72 (M2 := mS [228, 229, 127, 128, 129, 130, 131, 132, 133, 134, 135, 136, 141, 142]) rfl at_XH_hasRoom ⟨_, rfl⟩ rfl rfl ⟨(Or.inr ⟨wy_pr rfl, mS_no rfl⟩), trivial, trivial⟩ trivial (fun _ _ q => q) ?_ (fun _ _ _ q => q)
  refine wa_aload_n (n := 0) rfl ?_
  refine wb_gf4 72 rfl (wy_pr rfl) wt_72 wf_2_10 (v := 150) wl_72_10 ?_
  refine wa_iload_n (n := 1) rfl ?_
  refine wb_iald 150 rfl (wy_pr rfl) wt_150 (n := 6) ((cl_150 hC)) (by omega) (by omega) (v := u0) (hu0) (fun r1 => ?_)
  refine wa_iload_n (n := 2) rfl ?_
  refine wa_iadd ?_
  refine wa_gs ?_
  refine wa_iload_n (n := 1) rfl ?_
  refine wb_xald 1 rfl hx1 (by decide) (by omega) (by decide) (v := 8000) (by decide) (fun r2 => ?_)
  refine wa_icmpgt (w_rg0 (by omega) (by omega)) (w_rg0 (by omega) (by omega)) ⟨_, rfl⟩ (fun c3 => ?_) (fun c3 => ?_)
  · skip
    refine wa_iconst ?_
    refine wa_fall ⟨_, rfl⟩ ?_
    refine wa_zreturn rfl (Or.inl rfl) ?_
    show wJ _ _ _ _ _ _ _ _ _ _
    refine wa_ifeq (w_rg0 (by omega) (by omega)) ⟨_, rfl⟩ (fun c4 => ?_) (fun c4 => ?_)
    · skip
      refine wa_aload_n (n := 0) rfl ?_
      refine wa_bipush (w_rg2 (by omega) (by omega)) ?_
      refine wb_pfi 226 rfl (wy_pr rfl) wt_226 wf_8_16 (n := 16) rfl ⟨(by omega), (by omega)⟩ ?_
      refine wa_return rfl ?_
      exact ⟨rfl, Or.inl ⟨by omega, rfl⟩⟩
    · skip
      exact absurd c4 (by omega)
  · skip
    refine wa_iconst ?_
    refine wa_goto ⟨_, rfl⟩ ?_
    refine wa_zreturn rfl (Or.inr rfl) ?_
    show wJ _ _ _ _ _ _ _ _ _ _
    refine wa_ifeq (w_rg0 (by omega) (by omega)) ⟨_, rfl⟩ (fun c5 => ?_) (fun c5 => ?_)
    · skip
      exact absurd c5 (by omega)
    · skip
      refine wa_aload_n (n := 0) rfl ?_
      refine wb_gf4 226 rfl (wy_pr rfl) wt_226 wf_8_0 (v := 72) wl_226_0 ?_
      refine wa_iconst ?_
      refine wa_iload_n (n := 1) rfl ?_
      refine wa_cv 72 rfl (wy_pr rfl) wt_72 (M2 := mS [228, 229, 127, 128, 129, 130, 131, 132, 133, 134, 135, 136, 141, 142]) rfl at_XH_hasRoom ⟨_, rfl⟩ rfl rfl ⟨(Or.inr ⟨wy_pr rfl, mS_no rfl⟩), trivial, trivial⟩ trivial (fun _ _ q => q) ?_ (fun _ _ _ q => q)
      refine wa_aload_n (n := 0) rfl ?_
      refine wb_gf4 72 rfl (wy_pr rfl) wt_72 wf_2_10 (v := 150) wl_72_10 ?_
      refine wa_iload_n (n := 1) rfl ?_
      refine wb_iald 150 rfl (wy_pr rfl) wt_150 (n := 6) ((cl_150 hC)) (by omega) (by omega) (v := v0) (hv0) (fun r6 => ?_)
      refine wa_iload_n (n := 2) rfl ?_
      refine wa_iadd ?_
      refine wa_gs ?_
      refine wa_iload_n (n := 1) rfl ?_
      refine wb_xald 1 rfl hx1 (by decide) (by omega) (by decide) (v := 60000) (by decide) (fun r7 => ?_)
      refine wa_icmpgt (w_rg0 (by omega) (by omega)) (w_rg0 (by omega) (by omega)) ⟨_, rfl⟩ (fun c8 => ?_) (fun c8 => ?_)
      · skip
        refine wa_iconst ?_
        refine wa_fall ⟨_, rfl⟩ ?_
        refine wa_zreturn rfl (Or.inl rfl) ?_
        show wJ _ _ _ _ _ _ _ _ _ _
        refine wa_ifne (w_rg0 (by omega) (by omega)) ⟨_, rfl⟩ (fun c9 => ?_) (fun c9 => ?_)
        · skip
          exact absurd c9 (by omega)
        · skip
          refine wa_fall ⟨_, rfl⟩ ?_
          refine wa_aload_n (n := 0) rfl ?_
          refine wa_bipush (w_rg2 (by omega) (by omega)) ?_
          refine wb_pfi 226 rfl (wy_pr rfl) wt_226 wf_8_16 (n := 16) rfl ⟨(by omega), (by omega)⟩ ?_
          refine wa_return rfl ?_
          exact ⟨rfl, Or.inl ⟨by omega, rfl⟩⟩
      · skip
        refine wa_iconst ?_
        refine wa_goto ⟨_, rfl⟩ ?_
        refine wa_zreturn rfl (Or.inr rfl) ?_
        show wJ _ _ _ _ _ _ _ _ _ _
        refine wa_ifne (w_rg0 (by omega) (by omega)) ⟨_, rfl⟩ (fun c10 => ?_) (fun c10 => ?_)
        · skip
          refine wa_aload_n (n := 0) rfl ?_
          refine wb_gf4 226 rfl (wy_pr rfl) wt_226 wf_8_0 (v := 72) wl_226_0 ?_
          refine wa_bipush (w_rg2 (by omega) (by omega)) ?_
          refine wa_iconst ?_
          refine wa_iconst ?_
          refine wa_iload_n (n := 1) rfl ?_
          have at11a : S 141 (-1) = (S 141 (-1)) := (rfl)
          have at11b : S 142 (-1) = S 141 (-1) := ((hl) : S 142 (-1) = (S 141 (-1))).trans at11a.symm
          have at11c : S 127 (-1) = (S 127 (-1)) := (rfl)
          have at11d : ∀ x : Nat, x < 10 → S (127 + x) (-1) = S 127 (-1) := hth
          refine wa_cv 72 rfl (wy_pr rfl) wt_72 (M2 := mS [127, 128, 129, 130, 131, 132, 133, 134, 135, 136, 141, 142]) rfl at_XH_addThing ⟨_, rfl⟩ rfl rfl ⟨(Or.inr ⟨wy_pr rfl, mS_no rfl⟩), trivial, trivial⟩ trivial (fun _ _ q => mS_sub (by decide) q) (atH_ok (S := S) (kd := 6) (sh := (-1)) (fo := (-1)) (rm := a) (cs := cs) (n := n) (u0 := u0) hC hI (h2) ⟨by omega, by omega⟩ at11b ⟨by omega, by omega⟩ at11d (hn) ⟨by omega, by omega⟩ ⟨by omega, by omega⟩ (hu0) ⟨by omega, by omega⟩ ⟨by omega, by omega⟩ ⟨by omega, by omega⟩ ⟨by omega, by omega⟩ ⟨by omega, by omega⟩) (fun oq11 Sq11 hp12 q11 => ?_)
          rcases q11 with ⟨rfl, at11⟩
          show wJ _ _ _ _ _ _ _ _ _ _
          have at11e := at11.2.2.2.2.2.2.1.2
          have at11f := at11.2.2.2.2.2.1
          refine wa_istore_n (n := 2) rfl ?_
          refine wa_aload_n (n := 0) rfl ?_
          refine wb_gf4 226 rfl (wy_pr rfl) wt_226 wf_8_3 (v := 227) wl_226_3 ?_
          refine wb_gfi 227 rfl (wy_pr rfl) wt_227 wf_7_2 (v := h) (((at11.2.2.2.2.2.2.2.1 227 2 (by decide) (by decide) (by decide) (by decide) (by decide) (Or.inl (by decide)) (Or.inl (by decide)) (Or.inl (by decide))).trans (bh))) (fun r13 => ?_)
          refine wa_iload_n (n := 1) rfl ?_
          refine wa_isub ?_
          refine wa_istore_n (n := 3) rfl ?_
          refine wa_iconst ?_
          refine wa_istore (n := 4) rfl ?_
          refine wa_fall ⟨_, rfl⟩ ?_
          have zl2 : Sq11 228 (-1) = S 228 (-1) := (((at11.2.2.2.2.2.2.2.1 228 (-1) (by decide) (by decide) (by decide) (by decide) (by decide) (Or.inl (by decide)) (Or.inl (by decide)) (Or.inl (by decide))).trans (rfl)))
          have zl3 : Sq11 229 (-1) = Sq11 228 (-1) := ((((at11.2.2.2.2.2.2.2.1 229 (-1) (by decide) (by decide) (by decide) (by decide) (by decide) (Or.inl (by decide)) (Or.inl (by decide)) (Or.inl (by decide))).trans (bl1))) : Sq11 229 (-1) = S 228 (-1)).trans zl2.symm
          obtain ⟨⟨y1, y2⟩, ⟨-, -, y3, y4, y5, -⟩, -, y6, -, ⟨y7, y8, y9, y10⟩, ⟨y11, y12, y13, y14⟩, yf, yg, yr⟩ := id at11
          rw [hn, h2] at y3
          rw [hn] at y4 y5 y12 y14
          rw [h2] at y6 y8 y10
          have hLI : lvI 226 n a cs (cs + a) v0 0 Sq11 := ⟨⟨(CL_at hC at11), yg⟩, ⟨y6, by omega, by omega, by omega⟩, ⟨y7, by omega, by omega⟩, y11, ⟨by omega, y12, by omega⟩, ⟨y3, y4, y5, by omega, by omega⟩, ⟨((((at11.2.2.2.2.2.2.2.1 150 1 (by decide) (by decide) (by decide) (by decide) (by decide) (Or.inl (by decide)) (Or.inl (by decide)) (Or.inr (by decide))).trans (hv0))) : Sq11 150 1 = v0).trans (by omega), by omega, by omega⟩, zl3, by show Sq11 228 (-1) ≤ 4095; omega⟩
          refine wJ_S (ll_226 (n := n) (sz := a) (st := cs) (cs := cs + a) (v0 := v0) (fi := h - a) ⟨by omega, by omega⟩ a.toNat 0 Sq11 (by omega) (by omega) (by omega) hLI (fun Zb hav hLb => ?_)) ⟨rfl, rfl, rfl, rfl, rfl, trivial⟩
          have avf := avL_fr (by omega) _ _ _ hav
          have avg := avL_gi _ _ _ hav yg
          obtain ⟨⟨hCb, hIb⟩, -⟩ := id hLb
          refine wa_aload_n (n := 0) rfl ?_
          refine wa_iload_n (n := 1) rfl ?_
          refine wa_bipush (w_rg2 (by omega) (by omega)) ?_
          refine wa_iload_n (n := 2) rfl ?_
          refine wa_i2l (w_rg0 (by omega) (by omega)) ?_
          refine wa_cv 226 rfl (wy_pr rfl) wt_226 (M2 := mS [228, 229]) rfl at_XK_give ⟨_, rfl⟩ rfl rfl ⟨(Or.inr ⟨wy_pr rfl, mS_no rfl⟩), trivial, trivial, trivial, trivial, trivial⟩ trivial (fun _ _ q => mS_sub (by decide) q) (gw_226 (S := Zb) (n := a) (k := 6) (v := n) (h := h) (c := c) (p := p) (ln := (S 228 (-1))) hCb hIb ⟨by omega, by omega⟩ ⟨by omega, by omega⟩ (((avf 227 2 (by decide) (by decide) (by decide) (by decide) (Or.inl (by decide)) (Or.inl (by decide)) (Or.inl (by decide))).trans (((at11.2.2.2.2.2.2.2.1 227 2 (by decide) (by decide) (by decide) (by decide) (by decide) (Or.inl (by decide)) (Or.inl (by decide)) (Or.inl (by decide))).trans (bh))))) (((avf 226 4 (by decide) (by decide) (by decide) (by decide) (Or.inl (by decide)) (Or.inl (by decide)) (Or.inl (by decide))).trans (((at11.2.2.2.2.2.2.2.1 226 4 (by decide) (by decide) (by decide) (by decide) (by decide) (Or.inl (by decide)) (Or.inl (by decide)) (Or.inl (by decide))).trans (bc))))) (((avf 231 (c - 1) (by decide) (by decide) (by decide) (by decide) (Or.inl (by decide)) (Or.inl (by decide)) (Or.inl (by decide))).trans (((at11.2.2.2.2.2.2.2.1 231 (c - 1) (by decide) (by decide) (by decide) (by decide) (by decide) (Or.inl (by decide)) (Or.inl (by decide)) (Or.inl (by decide))).trans (bp))))) (((avf 228 (-1) (by decide) (by decide) (by decide) (by decide) (Or.inl (by decide)) (Or.inl (by decide)) (Or.inl (by decide))).trans (((at11.2.2.2.2.2.2.2.1 228 (-1) (by decide) (by decide) (by decide) (by decide) (by decide) (Or.inl (by decide)) (Or.inl (by decide)) (Or.inl (by decide))).trans (rfl))))) (((avf 229 (-1) (by decide) (by decide) (by decide) (by decide) (Or.inl (by decide)) (Or.inl (by decide)) (Or.inl (by decide))).trans (((at11.2.2.2.2.2.2.2.1 229 (-1) (by decide) (by decide) (by decide) (by decide) (by decide) (Or.inl (by decide)) (Or.inl (by decide)) (Or.inl (by decide))).trans (bl1))))) ⟨by omega, by omega⟩ ⟨by omega, by omega, by omega⟩ ⟨by omega, by omega⟩ ⟨by omega, by omega⟩) (fun oq14 Sq14 hp15 q14 => ?_)
          rcases q14 with ⟨rfl, A14, ra14, rfl⟩
          show wJ _ _ _ _ _ _ _ _ _ _
          refine wa_return rfl ?_
          exact ⟨rfl, Or.inr ⟨by omega, by omega, Sq11, Zb, at11, hav, hLb, A14, ra14, rfl⟩⟩
        · skip
          exact absurd c10 (by omega)
theorem x25_226 {c p h a b cs n u0 v0 : Int} (hP : xP 226 c p h S) (hab : (-2147483648 ≤ a ∧ a ≤ 2147483647) ∧ (-2147483648 ≤ b ∧ b ≤ 2147483647)) (hx1 : pe_at (pe_GA xs).xs 1 = some (1, tx_1)) (h2 : S 140 2 = cs) (hcs : 0 ≤ cs ∧ cs ≤ S 141 (-1)) (hl : S 142 (-1) = S 141 (-1)) (hz : 16 ≤ S 141 (-1) ∧ S 141 (-1) ≤ 480400) (hth : ∀ x : Nat, x < 10 → S (127 + x) (-1) = S 127 (-1)) (hn : S 72 3 = n) (hn1 : 0 ≤ n ∧ n ≤ S 127 (-1)) (hn2 : 64 ≤ S 127 (-1) ∧ S 127 (-1) ≤ 16383) (hu0 : S 150 0 = u0) (hu1 : 0 ≤ u0 ∧ u0 ≤ 8000) (hv0 : S 150 1 = v0) (hv1 : 0 ≤ v0 ∧ v0 ≤ 60000) (ha : 0 ≤ a ∧ a ≤ h) (hc5 : cs ≤ 4 * v0) (hn8 : n ≤ 8000) : wJ (pe_GA xs) wY0 (mS [228, 229, 127, 128, 129, 130, 131, 132, 133, 134, 135, 136, 141, 142]) (d + 11) t_XK_perform ((pe_at t_XK_perform.bl 0).getD (0, [])).2 [(0, (2, 226)), (1, (0, 25)), (2, (0, a)), (3, (0, b))] [] S (fun o Z => o = .inl none ∧ (((8000 ≤ u0 ∨ 60000 < v0 + a) ∧ w_up S 226 16 99 = Z) ∨ (u0 < 8000 ∧ v0 + a ≤ 60000 ∧ ∃ A B : wS, at_ag 6 (-1) (-1) a S A ∧ avL 226 n (h - a) a.toNat 0 A B ∧ lvI 226 n a cs (cs + a) v0 a B ∧ sO 226 h c p a 6 n B Z))) := by
  obtain ⟨⟨hC, hI⟩, ⟨bc, bc0, bc1⟩, ⟨bp, bp0, bp1⟩, ⟨bh, bh0, bh1, bh2⟩, bl1, bl2, bl3⟩ := id hP
  replace bp : S 231 (c - 1) = p := bp
  replace bh : S 227 2 = h := bh
  replace bh2 : h ≤ S 228 (-1) := bh2
  replace bl1 : S 229 (-1) = S 228 (-1) := bl1
  replace bl2 : 64 ≤ S 228 (-1) := bl2
  replace bl3 : S 228 (-1) ≤ 4095 := bl3
  have hP2 := id hP
  refine wa_aload_n (n := 0) rfl ?_
  refine wb_gf4 226 rfl (wy_pr rfl) wt_226 wf_8_3 (v := 227) wl_226_3 ?_
  refine wb_gfi 227 rfl (wy_pr rfl) wt_227 wf_7_2 (v := h) (bh) (fun r1 => ?_)
  refine wa_iconst ?_
  refine wa_isub ?_
  refine wa_istore (n := 4) rfl ?_
  refine wa_iload_n (n := 1) rfl ?_
  refine wb_sw (w_rg0 (by omega) (by omega)) (tb := 9) rfl ⟨_, rfl⟩ ?_
  refine wa_aload_n (n := 0) rfl ?_
  refine wa_iload_n (n := 2) rfl ?_
  refine wa_cv 226 rfl (wy_pr rfl) wt_226 (M2 := mS [228, 229, 127, 128, 129, 130, 131, 132, 133, 134, 135, 136, 141, 142]) rfl at_XK_makeList ⟨_, rfl⟩ rfl rfl ⟨trivial, (Or.inr ⟨wy_pr rfl, mS_no rfl⟩), trivial, trivial, trivial, trivial⟩ trivial (fun _ _ q => q) (mL_226 hP hx1 h2 hcs hl hz hth hn hn1 hn2 hu0 hu1 hv0 hv1 ha hc5 hn8) (fun oq2 Sq2 hp3 q2 => ?_)
  rcases q2 with ⟨rfl, hzz⟩
  show wJ _ _ _ _ _ _ _ _ _ _
  refine wa_goto ⟨_, rfl⟩ ?_
  refine wa_return rfl ?_
  exact ⟨rfl, hzz⟩
end Wf1
