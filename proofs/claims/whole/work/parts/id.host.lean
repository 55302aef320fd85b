/-! PART id: the builtin host, of both. -/
section Wid
variable {xs : List (Nat × List Int32)} {M : Nat → Prop} {d : Nat} {S Z A : wS} {T : Int → Int} {n : Int} {cs : List hCR} {ms : List hMR} {os : Int → List Int} {x : List Int} {k v t b9 : Int} {K : aK} {pr qr : Nat → Bool} {m : Nat} {Q : wO → wS → Prop}
/-- the first of so many, or -1 -/
def ctA (n : Nat) (pr : Nat → Bool) : Int := match (List.range n).find? pr with | some k => (k : Int) | none => -1
theorem ctA_q {q : Nat} (hq : q < m) (h : pr q = true) (hn : ∀ i : Nat, i < q → pr i = false) : ctA m pr = (q : Int) := by
  unfold ctA
  rw [(List.find?_range_eq_some (n := m) (i := q) (p := pr)).mpr ⟨h, List.mem_range.mpr hq, fun j hj => by rw [hn j hj]; rfl⟩]
theorem ctA_0 (hn : ∀ i : Nat, i < m → pr i = false) : ctA m pr = -1 := by
  unfold ctA
  rw [(List.find?_range_eq_none (n := m) (p := pr)).mpr (fun j hj => by rw [hn j hj]; rfl)]
theorem fdr_cg : ∀ (l : List Nat), (∀ y ∈ l, pr y = qr y) → l.find? pr = l.find? qr
  | [], _ => rfl
  | y :: l, h => by
    have h0 := h y List.mem_cons_self
    have h1 := fdr_cg l (fun z hz => h z (List.mem_cons_of_mem y hz))
    by_cases c : qr y = true
    · rw [List.find?_cons_of_pos (h0.trans c), List.find?_cons_of_pos c]
    · rw [List.find?_cons_of_neg (by rw [h0]; exact c), List.find?_cons_of_neg c]; exact h1
theorem ctA_cg (h : ∀ i : Nat, i < m → pr i = qr i) : ctA m pr = ctA m qr := by
  unfold ctA
  rw [fdr_cg (List.range m) (fun y hy => h y (List.mem_range.mp hy))]
theorem ctA_rg : ctA m pr = -1 ∨ (0 ≤ ctA m pr ∧ ctA m pr < (m : Int)) := by
  unfold ctA
  split
  · rename_i q hq
    have := List.mem_range.mp (List.mem_of_find?_eq_some hq)
    exact Or.inr ⟨by omega, by omega⟩
  · exact Or.inl rfl
/-- the class of this name, or -1 -/
def cIx (T : Int → Int) (cs : List hCR) (x : List Int) : Int := ctA cs.length (fun k => decide (cNa T cs (k : Int) = x))
theorem nth_ext {l1 l2 : List Int} (hl : l1.length = l2.length) (h : ∀ i : Nat, i < l1.length → l1.getD i 0 = l2.getD i 0) : l1 = l2 := ls_ext hl h
theorem ctl_73 (hC : w_CL S) (hn : S 73 2 = (m : Int)) (hm : m ≤ 60) (hv : -2147483648 ≤ v ∧ v ≤ 2147483647) : ∀ (f q : Nat), q + f = m → (∀ i : Nat, i < q → S 92 (i : Int) ≠ v) → wJ (pe_GA xs) wY0 M d t_XO_classTyped ((pe_at t_XO_classTyped.bl 1).getD (0, [])).2 [(0, (2, 73)), (1, (0, v)), (2, (0, (q : Int)))] [] S (fun o Z => S = Z ∧ o = .inl (some (0, ctA m (fun i => decide (S 92 (i : Int) = v))))) := by
  intro f
  induction f with
  | zero =>
    intro q hq hno
    have hqm : q = m := by omega
    rw [hqm] at hno
    rw [ctA_0 (fun i hi => decide_eq_false (hno i hi))]
    refine wa_iload_n (n := 2) rfl ?_
    refine wa_aload_n (n := 0) rfl ?_
    refine wb_gfi 73 rfl (wy_pr rfl) wt_73 wf_3_2 (v := (m : Int)) (hn) (fun r1 => ?_)
    refine wa_icmpge (w_rg0 (by omega) (by omega)) (w_rg0 (by omega) (by omega)) ⟨_, rfl⟩ (fun c2 => ?_) (fun c2 => ?_)
    · skip
      refine wa_iconst ?_
      refine wa_ireturn rfl ?_
      exact ⟨rfl, rfl⟩
    · skip
      exfalso; omega
  | succ f ih =>
    intro q hq hno
    refine wa_iload_n (n := 2) rfl ?_
    refine wa_aload_n (n := 0) rfl ?_
    refine wb_gfi 73 rfl (wy_pr rfl) wt_73 wf_3_2 (v := (m : Int)) (hn) (fun r51 => ?_)
    refine wa_icmpge (w_rg0 (by omega) (by omega)) (w_rg0 (by omega) (by omega)) ⟨_, rfl⟩ (fun c52 => ?_) (fun c52 => ?_)
    · skip
      exfalso; omega
    · skip
      refine wa_aload_n (n := 0) rfl ?_
      refine wb_gf4 73 rfl (wy_pr rfl) wt_73 wf_3_1 (v := 86) wl_73_1 ?_
      refine wa_iconst ?_
      refine wb_aald5 86 5 rfl rfl (wy_pr rfl) wt_86 (by rw [show _ = _ from ((cl_86 hC))]; omega) wl_86_5 ?_
      refine wa_iload_n (n := 2) rfl ?_
      refine wb_iald 92 rfl (wy_pr rfl) wt_92 (n := 60) ((cl_92 hC)) (by omega) (by omega) (v := (S 92 (q : Int))) rfl (fun r53 => ?_)
      refine wa_iload_n (n := 1) rfl ?_
      refine wa_icmpne (w_rg0 (by omega) (by omega)) (w_rg0 (by omega) (by omega)) ⟨_, rfl⟩ (fun c54 => ?_) (fun c54 => ?_)
      · skip
        refine wa_iinc rfl rfl ?_
        refine wa_goto ⟨_, rfl⟩ ?_
        refine wJ_S (ih (q + 1) (by omega) (fun i hi => ?_)) ⟨rfl, rfl, rfl, trivial⟩
        by_cases ce : i = q
        · rw [ce]; omega
        · exact hno i (by omega)
      · skip
        refine wa_iload_n (n := 2) rfl ?_
        refine wa_ireturn rfl ?_
        rw [ctA_q (q := q) (by omega) (decide_eq_true (by omega)) (fun i hi => decide_eq_false (hno i hi))]
        exact ⟨rfl, rfl⟩
theorem ctk_73 (hC : w_CL S) (hn : S 73 2 = (m : Int)) (hm : m ≤ 60) (hv : -2147483648 ≤ v ∧ v ≤ 2147483647) : wJ (pe_GA xs) wY0 M d t_XO_classTyped ((pe_at t_XO_classTyped.bl 0).getD (0, [])).2 [(0, (2, 73)), (1, (0, v))] [] S (fun o Z => S = Z ∧ o = .inl (some (0, ctA m (fun i => decide (S 92 (i : Int) = v))))) := by
  refine wa_iconst ?_
  refine wa_istore_n (n := 2) rfl ?_
  refine wa_fall ⟨_, rfl⟩ ?_
  exact wJ_S (ctl_73 hC hn hm hv m 0 (by omega) (fun i hi => absurd hi (Nat.not_lt_zero _))) ⟨rfl, rfl, rfl, trivial⟩
theorem ctw_73 {a0 wd : Int} (hw : wd_at S 74 64) (hcw : cnW 92 74 T cs S) (hc7 : ∀ k : Int, 0 ≤ k → k < (cs.length : Int) → S 92 k < S 74 7) (hx : ∀ i : Nat, i < x.length → S 3 (a0 + (i : Int)) = x.getD i 0) (hq : (0 ≤ wd ∧ wd < S 74 7 ∧ wq (S 75) (S 76) (S 77) (S 3) a0 (x.length : Int) wd) ∨ (wd = -1 ∧ ∀ k : Int, 0 ≤ k → k < S 74 7 → ¬ wq (S 75) (S 76) (S 77) (S 3) a0 (x.length : Int) k)) : ctA cs.length (fun i => decide (S 92 (i : Int) = wd)) = cIx T cs x := by
  refine ctA_cg (fun i hi => decide_eq_decide.mpr ?_)
  obtain ⟨b1, b2, b3, b4, b5⟩ := hcw.2 (i : Int) (by omega) (by omega)
  have b7 := hc7 (i : Int) (by omega) (by omega)
  have hwk : wq (S 75) (S 76) (S 77) (fun y => (cNa T cs (i : Int)).getD y.toNat 0) 0 ((cNa T cs (i : Int)).length : Int) (S 92 (i : Int)) := ⟨b2, fun q hq2 => by
    rw [Int.toNat_natCast] at hq2
    have := b4 q hq2
    show S 75 (S 76 (S 92 (i : Int)) + (q : Int)) = (cNa T cs (i : Int)).getD ((0 : Int) + (q : Int)).toNat 0
    rw [show ((0 : Int) + (q : Int)).toNat = q by omega]; exact this⟩
  have key : (((cNa T cs (i : Int)).length : Int) = (x.length : Int) ∧ ∀ q : Nat, q < (((cNa T cs (i : Int)).length : Int)).toNat → (fun y : Int => (cNa T cs (i : Int)).getD y.toNat 0) (0 + (q : Int)) = S 3 (a0 + (q : Int))) ↔ cNa T cs (i : Int) = x := by
    constructor
    · rintro ⟨e1, e2⟩
      refine nth_ext (by omega) (fun q hq2 => ?_)
      have z := e2 q (by rw [Int.toNat_natCast]; exact hq2)
      have z2 : (cNa T cs (i : Int)).getD ((0 : Int) + (q : Int)).toNat 0 = S 3 (a0 + (q : Int)) := z
      rw [show ((0 : Int) + (q : Int)).toNat = q by omega] at z2
      rw [z2]; exact hx q (by omega)
    · intro e
      refine ⟨by rw [e], fun q hq2 => ?_⟩
      rw [Int.toNat_natCast, e] at hq2
      show (cNa T cs (i : Int)).getD ((0 : Int) + (q : Int)).toNat 0 = S 3 (a0 + (q : Int))
      rw [show ((0 : Int) + (q : Int)).toNat = q by omega, e]; exact (hx q hq2).symm
  rcases hq with ⟨q0, q1, q2⟩ | ⟨q0, q1⟩
  · exact (wq_2 (w := 74) hw ⟨b1.1, b7⟩ ⟨q0, q1⟩ hwk q2).trans key
  · constructor
    · intro e; omega
    · intro e
      refine absurd ?_ (q1 (S 92 (i : Int)) b1.1 b7)
      have z := key.mpr e
      rw [z.1] at hwk
      exact ⟨hwk.1, fun q hq2 => (hwk.2 q hq2).trans (z.2 q (by rw [z.1]; exact hq2))⟩
theorem xb7_73_215 {c p h a0 : Int} (hP : xP 215 c p h S) (h72 : S 72 1 = 73) (hn : S 73 2 = (cs.length : Int)) (hm : cs.length ≤ 60) (hh1 : 1 ≤ h) (hky : S 217 (h - 1) = 3) (hvy : S 218 (h - 1) = a0 * 4294967296 + (x.length : Int)) (ha : 0 ≤ a0 ∧ a0 + (x.length : Int) ≤ S 3 (-1)) (h3 : S 3 (-1) ≤ 16777216) (hx : ∀ i : Nat, i < x.length → S 3 (a0 + (i : Int)) = x.getD i 0) (hw : wd_at S 74 64) (hL : wd_L S 74 64) (hcw : cnW 92 74 T cs S) (hc7 : ∀ k : Int, 0 ≤ k → k < (cs.length : Int) → S 92 k < S 74 7) (h7m : S 74 7 ≤ 1000000) : wJ (pe_GA xs) wY0 (mS [217, 218]) (d + 11) t_XK_callBuiltin ((pe_at t_XK_callBuiltin.bl 0).getD (0, [])).2 [(0, (2, 215)), (1, (0, 7))] [] S (fun o Z => o = .inl none ∧ ((cIx T cs x = -1 ∧ w_up S 215 16 12 = Z) ∨ (0 ≤ cIx T cs x ∧ sO 215 h c p 1 8 (cIx T cs x) S Z))) := by
  obtain ⟨⟨hC, hI⟩, ⟨bc, bc0, bc1⟩, ⟨bp, bp0, bp1⟩, ⟨bh, bh0, bh1, bh2⟩, bl1, bl2, bl3⟩ := hP
  replace bp : S 220 (c - 1) = p := bp
  replace bh : S 216 2 = h := bh
  replace bh2 : h ≤ S 217 (-1) := bh2
  replace bl1 : S 218 (-1) = S 217 (-1) := bl1
  replace bl2 : 64 ≤ S 217 (-1) := bl2
  replace bl3 : S 217 (-1) ≤ 4095 := bl3
  have hcr := ctA_rg (m := cs.length) (pr := fun k => decide (cNa T cs (k : Int) = x))
  replace hcr : cIx T cs x = -1 ∨ (0 ≤ cIx T cs x ∧ cIx T cs x < (cs.length : Int)) := hcr
  refine wa_aload_n (n := 0) rfl ?_
  refine wb_gf4 215 rfl (wy_pr rfl) wt_215 wf_8_3 (v := 216) wl_215_3 ?_
  refine wb_gfi 216 rfl (wy_pr rfl) wt_216 wf_7_2 (v := h) (bh) (fun r1 => ?_)
  refine wa_iconst ?_
  refine wa_isub ?_
  refine wa_istore_n (n := 2) rfl ?_
  refine wa_aload_n (n := 0) rfl ?_
  refine wb_gf4 215 rfl (wy_pr rfl) wt_215 wf_8_3 (v := 216) wl_215_3 ?_
  refine wb_gf4 216 rfl (wy_pr rfl) wt_216 wf_7_0 (v := 217) wl_216_0 ?_
  refine wa_iload_n (n := 2) rfl ?_
  refine wb_bald 217 rfl (wy_pr rfl) wt_217 (n := (S 217 (-1))) (rfl) (by omega) (by omega) (v := 3) (hky) (fun r2 => ?_)
  refine wa_istore_n (n := 3) rfl ?_
  refine wa_aload_n (n := 0) rfl ?_
  refine wb_gf4 215 rfl (wy_pr rfl) wt_215 wf_8_3 (v := 216) wl_215_3 ?_
  refine wb_gf4 216 rfl (wy_pr rfl) wt_216 wf_7_1 (v := 218) wl_216_1 ?_
  refine wa_iload_n (n := 2) rfl ?_
  refine wb_lald 218 rfl (wy_pr rfl) wt_218 (n := (S 217 (-1))) (bl1) (by omega) (by omega) (v := (a0 * 4294967296 + (x.length : Int))) (hvy) (fun r3 => ?_)
  refine wa_lstore (n := 4) rfl ?_
  refine wa_iload_n (n := 1) rfl ?_
  refine wb_sw (w_rg0 (by omega) (by omega)) (tb := 14) rfl ⟨_, rfl⟩ ?_
  refine wa_aload_n (n := 0) rfl ?_
  refine wa_iload_n (n := 3) rfl ?_
  refine wa_lload (n := 4) rfl ?_
  refine wa_cv 215 rfl (wy_pr rfl) wt_215 (M2 := mS [217, 218]) rfl at_XK_giveClass ⟨_, rfl⟩ rfl rfl ⟨trivial, trivial, trivial, (Or.inr ⟨wy_pr rfl, mS_no rfl⟩), trivial, trivial⟩ trivial (fun _ _ q => q) ?_ (fun _ _ _ q => q)
  refine wa_aload_n (n := 0) rfl ?_
  refine wb_gf4 215 rfl (wy_pr rfl) wt_215 wf_8_0 (v := 72) wl_215_0 ?_
  refine wb_gf5 72 rfl (wy_pr rfl) wt_72 wf_2_1 (v := 73) (h72) (fun r4 => ?_)
  refine wa_astore (n := 4) rfl ?_
  refine wa_iconst ?_
  refine wa_istore (n := 5) rfl ?_
  refine wa_iload_n (n := 1) rfl ?_
  refine wa_iconst ?_
  refine wa_icmpne (w_rg0 (by omega) (by omega)) (w_rg0 (by omega) (by omega)) ⟨_, rfl⟩ (fun c5 => ?_) (fun c5 => ?_)
  · skip
    exact absurd c5 (by omega)
  · skip
    refine wa_aload (n := 4) rfl ?_
    refine wb_gf4 73 rfl (wy_pr rfl) wt_73 wf_3_0 (v := 74) wl_73_0 ?_
    refine wa_aload_n (n := 0) rfl ?_
    refine wb_gf4 215 rfl (wy_pr rfl) wt_215 wf_8_0 (v := 72) wl_215_0 ?_
    refine wb_gf4 72 rfl (wy_pr rfl) wt_72 wf_2_0 (v := 2) wl_72_0 ?_
    refine wb_gf4 2 rfl (wy_pr rfl) wt_2 wf_9_0 (v := 3) wl_2_0 ?_
    refine wa_lload_n (n := 2) rfl ?_
    refine wa_cs (M2 := mS [217, 218]) rfl at_X_sliceStart ⟨_, rfl⟩ rfl rfl ⟨trivial, (Or.inr ⟨wy_pr rfl, mS_no rfl⟩), (Or.inr ⟨wy_pr rfl, mS_no rfl⟩), trivial, trivial, trivial⟩ ⟨(Or.inr ⟨wy_pr rfl, mS_no rfl⟩), (Or.inr ⟨wy_pr rfl, mS_no rfl⟩), trivial⟩ (fun _ _ q => q) ?_ (fun _ _ _ q => q)
    refine wa_lload_n (n := 0) rfl ?_
    refine wa_bipush (w_rg2 (by omega) (by omega)) ?_
    refine wa_lushr ?_
    refine wb_l2i_r (y := a0) (sl_s ⟨by omega, by omega⟩ ⟨by omega, by omega⟩) ?_
    refine wa_ireturn rfl ?_
    show wJ _ _ _ _ _ _ _ _ _ _
    refine wa_lload_n (n := 2) rfl ?_
    refine wa_cs (M2 := mS [217, 218]) rfl at_X_sliceSize ⟨_, rfl⟩ rfl rfl ⟨trivial, (Or.inr ⟨wy_pr rfl, mS_no rfl⟩), (Or.inr ⟨wy_pr rfl, mS_no rfl⟩), trivial, trivial, trivial⟩ ⟨trivial, (Or.inr ⟨wy_pr rfl, mS_no rfl⟩), (Or.inr ⟨wy_pr rfl, mS_no rfl⟩), trivial⟩ (fun _ _ q => q) ?_ (fun _ _ _ q => q)
    refine wa_lload_n (n := 0) rfl ?_
    refine wb_l2i_r (y := (x.length : Int)) (sl_z ⟨by omega, by omega⟩ ⟨by omega, by omega⟩) ?_
    refine wa_ireturn rfl ?_
    show wJ _ _ _ _ _ _ _ _ _ _
    refine wa_cv 74 rfl (wy_pr rfl) wt_74 (M2 := mS []) rfl at_XW_wordAt ⟨_, rfl⟩ rfl rfl ⟨trivial, (Or.inr ⟨wy_pr rfl, mS_no rfl⟩), (Or.inr ⟨wy_pr rfl, mS_no rfl⟩), trivial, trivial, trivial⟩ trivial (fun _ _ q => mS_sub (by decide) q) (wa_74 (S := S) (b := 3) (a0 := a0) (n := (x.length : Int)) (wy_pr rfl) wt_3 ⟨by omega, by omega, by omega, by omega⟩ hw hL) (fun oq6 Sq6 hp7 q6 => ?_)
    rcases q6 with ⟨rfl, wd, rfl, hwd⟩
    show wJ _ _ _ _ _ _ _ _ _ _
    have hwr : -1 ≤ wd ∧ wd ≤ 1000000 := by rcases hwd with ⟨z1, z2, -⟩ | ⟨z1, -⟩ <;> omega
    have hci := ctw_73 (T := T) hw hcw hc7 hx hwd
    have hno : wd = -1 → cIx T cs x = -1 := fun z => by rw [← hci]; refine ctA_0 (fun i hi => decide_eq_false ?_); have z1 := (hcw.2 (i : Int) (by omega) (by omega)).1.1; rw [z]; omega
    refine wa_istore (n := 5) rfl ?_
    refine wa_fall ⟨_, rfl⟩ ?_
    refine wa_iload (n := 5) rfl ?_
    refine wa_iconst ?_
    refine wa_icmpne (w_rg0 (by omega) (by omega)) (w_rg0 (by omega) (by omega)) ⟨_, rfl⟩ (fun c8 => ?_) (fun c8 => ?_)
    · skip
      refine wa_aload (n := 4) rfl ?_
      refine wa_iload (n := 5) rfl ?_
      refine wa_cv 73 rfl (wy_pr rfl) wt_73 (M2 := mS []) rfl at_XO_classTyped ⟨_, rfl⟩ rfl rfl ⟨trivial, (Or.inr ⟨wy_pr rfl, mS_no rfl⟩), (Or.inr ⟨wy_pr rfl, mS_no rfl⟩), trivial, trivial, trivial⟩ trivial (fun _ _ q => mS_sub (by decide) q) (wJ_mono (ctk_73 (S := S) (v := wd) hC hn hm ⟨by omega, by omega⟩) (fun o Z hz => (⟨hz.1, by rw [← hci]; exact hz.2⟩ : S = Z ∧ o = .inl (some (0, cIx T cs x))))) (fun oq9 Sq9 hp10 q9 => ?_)
      rcases q9 with ⟨rfl, rfl⟩
      show wJ _ _ _ _ _ _ _ _ _ _
      refine wa_fall ⟨_, rfl⟩ ?_
      refine wa_istore (n := 6) rfl ?_
      refine wa_iload (n := 6) rfl ?_
      refine wa_iconst ?_
      refine wa_icmpne (w_rg0 (by omega) (by omega)) (w_rg0 (by omega) (by omega)) ⟨_, rfl⟩ (fun c11 => ?_) (fun c11 => ?_)
      · skip
        refine wa_aload_n (n := 0) rfl ?_
        refine wa_iconst ?_
        refine wa_bipush (w_rg2 (by omega) (by omega)) ?_
        refine wa_iload (n := 6) rfl ?_
        refine wa_i2l (w_rg0 (by omega) (by omega)) ?_
        refine wa_cv 215 rfl (wy_pr rfl) wt_215 (M2 := mS [217, 218]) rfl at_XK_give ⟨_, rfl⟩ rfl rfl ⟨trivial, trivial, (Or.inr ⟨wy_pr rfl, mS_no rfl⟩), (Or.inr ⟨wy_pr rfl, mS_no rfl⟩), trivial, trivial, trivial⟩ trivial (fun _ _ q => q) (gw_215 (S := S) (n := 1) (k := 8) (v := (cIx T cs x)) (h := h) (c := c) (p := p) (ln := (S 217 (-1))) hC hI ⟨by omega, by omega⟩ ⟨by omega, by omega⟩ (bh) (bc) (bp) (rfl) (bl1) ⟨by omega, by omega⟩ ⟨by omega, by omega, by omega⟩ ⟨by omega, by omega⟩ ⟨by omega, by omega⟩) (fun oq12 Sq12 hp13 q12 => ?_)
        rcases q12 with ⟨rfl, A12, ra12, rfl⟩
        show wJ _ _ _ _ _ _ _ _ _ _
        refine wa_fall ⟨_, rfl⟩ ?_
        refine wa_return rfl ?_
        show wJ _ _ _ _ _ _ _ _ _ _
        refine wa_fall ⟨_, rfl⟩ ?_
        refine wa_return rfl ?_
        exact ⟨rfl, Or.inr ⟨by omega, A12, ra12, rfl⟩⟩
      · skip
        refine wa_aload_n (n := 0) rfl ?_
        refine wa_bipush (w_rg2 (by omega) (by omega)) ?_
        refine wb_pfi 215 rfl (wy_pr rfl) wt_215 wf_8_16 (n := 16) rfl ⟨(by omega), (by omega)⟩ ?_
        refine wa_goto ⟨_, rfl⟩ ?_
        refine wa_return rfl ?_
        show wJ _ _ _ _ _ _ _ _ _ _
        refine wa_fall ⟨_, rfl⟩ ?_
        refine wa_return rfl ?_
        exact ⟨rfl, Or.inl ⟨by omega, rfl⟩⟩
    · skip
      refine wa_iconst ?_
      refine wa_goto ⟨_, rfl⟩ ?_
      refine wa_istore (n := 6) rfl ?_
      refine wa_iload (n := 6) rfl ?_
      refine wa_iconst ?_
      refine wa_icmpne (w_rg0 (by omega) (by omega)) (w_rg0 (by omega) (by omega)) ⟨_, rfl⟩ (fun c14 => ?_) (fun c14 => ?_)
      · skip
        exact absurd c14 (by omega)
      · skip
        refine wa_aload_n (n := 0) rfl ?_
        refine wa_bipush (w_rg2 (by omega) (by omega)) ?_
        refine wb_pfi 215 rfl (wy_pr rfl) wt_215 wf_8_16 (n := 16) rfl ⟨(by omega), (by omega)⟩ ?_
        refine wa_goto ⟨_, rfl⟩ ?_
        refine wa_return rfl ?_
        show wJ _ _ _ _ _ _ _ _ _ _
        refine wa_fall ⟨_, rfl⟩ ?_
        refine wa_return rfl ?_
        exact ⟨rfl, Or.inl ⟨by omega, rfl⟩⟩
theorem xb7n_73_215 {c p h ky : Int} (hP : xP 215 c p h S) (h72 : S 72 1 = 73) (hh1 : 1 ≤ h) (hky : S 217 (h - 1) = ky) (hk3 : ky ≠ 3) : wJ (pe_GA xs) wY0 (mS [217, 218]) (d + 11) t_XK_callBuiltin ((pe_at t_XK_callBuiltin.bl 0).getD (0, [])).2 [(0, (2, 215)), (1, (0, 7))] [] S (fun o Z => o = .inl none ∧ w_up S 215 16 12 = Z) := by
  obtain ⟨⟨hC, hI⟩, ⟨bc, bc0, bc1⟩, ⟨bp, bp0, bp1⟩, ⟨bh, bh0, bh1, bh2⟩, bl1, bl2, bl3⟩ := hP
  replace bp : S 220 (c - 1) = p := bp
  replace bh : S 216 2 = h := bh
  replace bh2 : h ≤ S 217 (-1) := bh2
  replace bl1 : S 218 (-1) = S 217 (-1) := bl1
  replace bl2 : 64 ≤ S 217 (-1) := bl2
  replace bl3 : S 217 (-1) ≤ 4095 := bl3
  refine wa_aload_n (n := 0) rfl ?_
  refine wb_gf4 215 rfl (wy_pr rfl) wt_215 wf_8_3 (v := 216) wl_215_3 ?_
  refine wb_gfi 216 rfl (wy_pr rfl) wt_216 wf_7_2 (v := h) (bh) (fun r1 => ?_)
  refine wa_iconst ?_
  refine wa_isub ?_
  refine wa_istore_n (n := 2) rfl ?_
  refine wa_aload_n (n := 0) rfl ?_
  refine wb_gf4 215 rfl (wy_pr rfl) wt_215 wf_8_3 (v := 216) wl_215_3 ?_
  refine wb_gf4 216 rfl (wy_pr rfl) wt_216 wf_7_0 (v := 217) wl_216_0 ?_
  refine wa_iload_n (n := 2) rfl ?_
  refine wb_bald 217 rfl (wy_pr rfl) wt_217 (n := (S 217 (-1))) (rfl) (by omega) (by omega) (v := ky) (hky) (fun r2 => ?_)
  refine wa_istore_n (n := 3) rfl ?_
  refine wa_aload_n (n := 0) rfl ?_
  refine wb_gf4 215 rfl (wy_pr rfl) wt_215 wf_8_3 (v := 216) wl_215_3 ?_
  refine wb_gf4 216 rfl (wy_pr rfl) wt_216 wf_7_1 (v := 218) wl_216_1 ?_
  refine wa_iload_n (n := 2) rfl ?_
  refine wb_lald 218 rfl (wy_pr rfl) wt_218 (n := (S 217 (-1))) (bl1) (by omega) (by omega) (v := (S 218 (h - 1))) rfl (fun r3 => ?_)
  refine wa_lstore (n := 4) rfl ?_
  refine wa_iload_n (n := 1) rfl ?_
  refine wb_sw (w_rg0 (by omega) (by omega)) (tb := 14) rfl ⟨_, rfl⟩ ?_
  refine wa_aload_n (n := 0) rfl ?_
  refine wa_iload_n (n := 3) rfl ?_
  refine wa_lload (n := 4) rfl ?_
  refine wa_cv 215 rfl (wy_pr rfl) wt_215 (M2 := mS [217, 218]) rfl at_XK_giveClass ⟨_, rfl⟩ rfl rfl ⟨trivial, trivial, trivial, (Or.inr ⟨wy_pr rfl, mS_no rfl⟩), trivial, trivial⟩ trivial (fun _ _ q => q) ?_ (fun _ _ _ q => q)
  refine wa_aload_n (n := 0) rfl ?_
  refine wb_gf4 215 rfl (wy_pr rfl) wt_215 wf_8_0 (v := 72) wl_215_0 ?_
  refine wb_gf5 72 rfl (wy_pr rfl) wt_72 wf_2_1 (v := 73) (h72) (fun r4 => ?_)
  refine wa_astore (n := 4) rfl ?_
  refine wa_iconst ?_
  refine wa_istore (n := 5) rfl ?_
  refine wa_iload_n (n := 1) rfl ?_
  refine wa_iconst ?_
  refine wa_icmpne (w_rg0 (by omega) (by omega)) (w_rg0 (by omega) (by omega)) ⟨_, rfl⟩ (fun c5 => ?_) (fun c5 => ?_)
  · skip
    refine wa_iload (n := 5) rfl ?_
    refine wa_iconst ?_
    refine wa_icmpne (w_rg0 (by omega) (by omega)) (w_rg0 (by omega) (by omega)) ⟨_, rfl⟩ (fun c6 => ?_) (fun c6 => ?_)
    · skip
      exact absurd c6 (by omega)
    · skip
      refine wa_iconst ?_
      refine wa_goto ⟨_, rfl⟩ ?_
      refine wa_istore (n := 6) rfl ?_
      refine wa_iload (n := 6) rfl ?_
      refine wa_iconst ?_
      refine wa_icmpne (w_rg0 (by omega) (by omega)) (w_rg0 (by omega) (by omega)) ⟨_, rfl⟩ (fun c7 => ?_) (fun c7 => ?_)
      · skip
        exact absurd c7 (by omega)
      · skip
        refine wa_aload_n (n := 0) rfl ?_
        refine wa_bipush (w_rg2 (by omega) (by omega)) ?_
        refine wb_pfi 215 rfl (wy_pr rfl) wt_215 wf_8_16 (n := 16) rfl ⟨(by omega), (by omega)⟩ ?_
        refine wa_goto ⟨_, rfl⟩ ?_
        refine wa_return rfl ?_
        show wJ _ _ _ _ _ _ _ _ _ _
        refine wa_fall ⟨_, rfl⟩ ?_
        refine wa_return rfl ?_
        exact ⟨rfl, rfl⟩
  · skip
    exfalso; omega
theorem zb7_73_215 (h : stC 215 S K) (hi : cIn S K 28 7 b9) (h72 : S 72 1 = 73) (hh1 : 1 ≤ K.1.length) (hn : S 73 2 = (cs.length : Int)) (hm : cs.length ≤ 60) (hk : (K.1.getD (K.1.length - 1) (0, 0, [])).1 = 3) (hp3 : cTt S) (hw : wd_at S 74 64) (hL : wd_L S 74 64) (hcw : cnW 92 74 T cs S) (hc7 : ∀ k : Int, 0 ≤ k → k < (cs.length : Int) → S 92 k < S 74 7) (h7m : S 74 7 ≤ 1000000) (hc : 0 ≤ (cIx T cs (K.1.getD (K.1.length - 1) (0, 0, [])).2.2)) : cSt xs d 215 S (kP K 1 (8, (cIx T cs (K.1.getD (K.1.length - 1) (0, 0, [])).2.2), [])) := by
  obtain ⟨h1, ⟨h2, h2b⟩, ⟨h3, h4, h5⟩, -⟩ := id h
  have hcy := c_at h1 (i := K.1.length - 1) (by omega) (j := (K.1.length : Int) - 1) (by omega)
  have ef : ∀ (j : Nat) (x : Int), j < 215 → (w_up S 215 16 0) j x = S j x := fun j x j0 => w_up_slot (by omega)
  obtain ⟨s, s1, s2, s3⟩ := cV_t hcy hk
  have p3 := hp3.2
  have eF : ∀ j : Nat, j < 215 → (w_up S 215 16 0) j = S j := fun j j0 => funext (fun x => ef j x j0)
  have hcal := xb7_73_215 (xs := xs) (d := d) (T := T) (cs := cs) (x := (K.1.getD (K.1.length - 1) (0, 0, [])).2.2) (a0 := s) (xP_of (Or.inl rfl) h) ((ef 72 1 (by first | decide | omega)).trans h72) ((ef 73 2 (by first | decide | omega)).trans hn) hm (by omega) ((w_up_slot (by first | decide | omega)).trans (cV_k hcy hk)) ((w_up_slot (by first | decide | omega)).trans s1) ⟨s2.1, by rw [ef 3 _ (by first | decide | omega)]; omega⟩ (by rw [ef 3 _ (by first | decide | omega)]; omega) (fun i hi2 => (ef 3 _ (by first | decide | omega)).trans (s3 i hi2)) (by unfold wd_at; rw [eF _ (by first | decide | omega), eF _ (by first | decide | omega), eF _ (by first | decide | omega), eF _ (by first | decide | omega), eF _ (by first | decide | omega), eF _ (by first | decide | omega)]; exact hw) (by unfold wd_L; rw [eF _ (by first | decide | omega), eF _ (by first | decide | omega), eF _ (by first | decide | omega), eF _ (by first | decide | omega), eF _ (by first | decide | omega), eF _ (by first | decide | omega), eF _ (by first | decide | omega)]; exact hL) (cnW_ag hcw (fun j x hj => ef j x (by omega))) (fun k k0 k1 => by rw [ef 92 _ (by first | decide | omega), ef 74 _ (by first | decide | omega)]; exact hc7 k k0 k1) (by rw [ef 74 _ (by first | decide | omega)]; exact h7m)
  exact cs_b_215 (m := 1) h hi.1 hi.2.1 hi.2.2 (by first | decide | omega) (fun q => by omega) (fun x hx => hx) (by unfold mS; decide) (wJ_mono hcal (fun o Z hz => ⟨hz.1, hz.2.elim (fun z => absurd z.1 (by omega)) (fun z => z.2)⟩)) rfl hh1 (cV_e (by first | decide | omega) rfl)
theorem zb7m_73_215 (h : stC 215 S K) (hi : cIn S K 28 7 b9) (h72 : S 72 1 = 73) (hh1 : 1 ≤ K.1.length) (hn : S 73 2 = (cs.length : Int)) (hm : cs.length ≤ 60) (hk : (K.1.getD (K.1.length - 1) (0, 0, [])).1 = 3) (hp3 : cTt S) (hw : wd_at S 74 64) (hL : wd_L S 74 64) (hcw : cnW 92 74 T cs S) (hc7 : ∀ k : Int, 0 ≤ k → k < (cs.length : Int) → S 92 k < S 74 7) (h7m : S 74 7 ≤ 1000000) (hc : (cIx T cs (K.1.getD (K.1.length - 1) (0, 0, [])).2.2) = -1) : cSt xs d 215 S (kTh K (2, 12, [])) := by
  obtain ⟨h1, ⟨h2, h2b⟩, ⟨h3, h4, h5⟩, -⟩ := id h
  have hcy := c_at h1 (i := K.1.length - 1) (by omega) (j := (K.1.length : Int) - 1) (by omega)
  have ef : ∀ (j : Nat) (x : Int), j < 215 → (w_up S 215 16 0) j x = S j x := fun j x j0 => w_up_slot (by omega)
  obtain ⟨s, s1, s2, s3⟩ := cV_t hcy hk
  have p3 := hp3.2
  have eF : ∀ j : Nat, j < 215 → (w_up S 215 16 0) j = S j := fun j j0 => funext (fun x => ef j x j0)
  have hcal := xb7_73_215 (xs := xs) (d := d) (T := T) (cs := cs) (x := (K.1.getD (K.1.length - 1) (0, 0, [])).2.2) (a0 := s) (xP_of (Or.inl rfl) h) ((ef 72 1 (by first | decide | omega)).trans h72) ((ef 73 2 (by first | decide | omega)).trans hn) hm (by omega) ((w_up_slot (by first | decide | omega)).trans (cV_k hcy hk)) ((w_up_slot (by first | decide | omega)).trans s1) ⟨s2.1, by rw [ef 3 _ (by first | decide | omega)]; omega⟩ (by rw [ef 3 _ (by first | decide | omega)]; omega) (fun i hi2 => (ef 3 _ (by first | decide | omega)).trans (s3 i hi2)) (by unfold wd_at; rw [eF _ (by first | decide | omega), eF _ (by first | decide | omega), eF _ (by first | decide | omega), eF _ (by first | decide | omega), eF _ (by first | decide | omega), eF _ (by first | decide | omega)]; exact hw) (by unfold wd_L; rw [eF _ (by first | decide | omega), eF _ (by first | decide | omega), eF _ (by first | decide | omega), eF _ (by first | decide | omega), eF _ (by first | decide | omega), eF _ (by first | decide | omega), eF _ (by first | decide | omega)]; exact hL) (cnW_ag hcw (fun j x hj => ef j x (by omega))) (fun k k0 k1 => by rw [ef 92 _ (by first | decide | omega), ef 74 _ (by first | decide | omega)]; exact hc7 k k0 k1) (by rw [ef 74 _ (by first | decide | omega)]; exact h7m)
  exact cx_b_215 h hi.1 hi.2.1 hi.2.2 (by first | decide | omega) (fun q => by omega) (fun x hx => hx) (by unfold mS; decide) (by first | decide | omega) (wJ_mono hcal (fun o Z hz => ⟨hz.1, hz.2.elim (fun z => z.2) (fun z => absurd z.1 (by omega))⟩))
theorem zb7e_73_215 (h : stC 215 S K) (hi : cIn S K 28 7 b9) (h72 : S 72 1 = 73) (hh1 : 1 ≤ K.1.length) (hk : (K.1.getD (K.1.length - 1) (0, 0, [])).1 ≠ 3) : cSt xs d 215 S (kTh K (2, 12, [])) := by
  obtain ⟨h1, -, -⟩ := id h
  have hcy := c_at h1 (i := K.1.length - 1) (by omega) (j := (K.1.length : Int) - 1) (by omega)
  exact cx_b_215 h hi.1 hi.2.1 hi.2.2 (by first | decide | omega) (fun q => by omega) (fun x hx => hx) (by unfold mS; decide) (by first | decide | omega) (xb7n_73_215 (xP_of (Or.inl rfl) h) ((w_up_slot (by first | decide | omega)).trans h72) (by omega) ((w_up_slot (by first | decide | omega)).trans hcy.1) hk)
theorem xb7_73_226 {c p h a0 : Int} (hP : xP 226 c p h S) (h72 : S 72 1 = 73) (hn : S 73 2 = (cs.length : Int)) (hm : cs.length ≤ 60) (hh1 : 1 ≤ h) (hky : S 228 (h - 1) = 3) (hvy : S 229 (h - 1) = a0 * 4294967296 + (x.length : Int)) (ha : 0 ≤ a0 ∧ a0 + (x.length : Int) ≤ S 3 (-1)) (h3 : S 3 (-1) ≤ 16777216) (hx : ∀ i : Nat, i < x.length → S 3 (a0 + (i : Int)) = x.getD i 0) (hw : wd_at S 74 64) (hL : wd_L S 74 64) (hcw : cnW 92 74 T cs S) (hc7 : ∀ k : Int, 0 ≤ k → k < (cs.length : Int) → S 92 k < S 74 7) (h7m : S 74 7 ≤ 1000000) : wJ (pe_GA xs) wY0 (mS [228, 229]) (d + 11) t_XK_callBuiltin ((pe_at t_XK_callBuiltin.bl 0).getD (0, [])).2 [(0, (2, 226)), (1, (0, 7))] [] S (fun o Z => o = .inl none ∧ ((cIx T cs x = -1 ∧ w_up S 226 16 12 = Z) ∨ (0 ≤ cIx T cs x ∧ sO 226 h c p 1 8 (cIx T cs x) S Z))) := by
  obtain ⟨⟨hC, hI⟩, ⟨bc, bc0, bc1⟩, ⟨bp, bp0, bp1⟩, ⟨bh, bh0, bh1, bh2⟩, bl1, bl2, bl3⟩ := hP
  replace bp : S 231 (c - 1) = p := bp
  replace bh : S 227 2 = h := bh
  replace bh2 : h ≤ S 228 (-1) := bh2
  replace bl1 : S 229 (-1) = S 228 (-1) := bl1
  replace bl2 : 64 ≤ S 228 (-1) := bl2
  replace bl3 : S 228 (-1) ≤ 4095 := bl3
  have hcr := ctA_rg (m := cs.length) (pr := fun k => decide (cNa T cs (k : Int) = x))
  replace hcr : cIx T cs x = -1 ∨ (0 ≤ cIx T cs x ∧ cIx T cs x < (cs.length : Int)) := hcr
  refine wa_aload_n (n := 0) rfl ?_
  refine wb_gf4 226 rfl (wy_pr rfl) wt_226 wf_8_3 (v := 227) wl_226_3 ?_
  refine wb_gfi 227 rfl (wy_pr rfl) wt_227 wf_7_2 (v := h) (bh) (fun r1 => ?_)
  refine wa_iconst ?_
  refine wa_isub ?_
  refine wa_istore_n (n := 2) rfl ?_
  refine wa_aload_n (n := 0) rfl ?_
  refine wb_gf4 226 rfl (wy_pr rfl) wt_226 wf_8_3 (v := 227) wl_226_3 ?_
  refine wb_gf4 227 rfl (wy_pr rfl) wt_227 wf_7_0 (v := 228) wl_227_0 ?_
  refine wa_iload_n (n := 2) rfl ?_
  refine wb_bald 228 rfl (wy_pr rfl) wt_228 (n := (S 228 (-1))) (rfl) (by omega) (by omega) (v := 3) (hky) (fun r2 => ?_)
  refine wa_istore_n (n := 3) rfl ?_
  refine wa_aload_n (n := 0) rfl ?_
  refine wb_gf4 226 rfl (wy_pr rfl) wt_226 wf_8_3 (v := 227) wl_226_3 ?_
  refine wb_gf4 227 rfl (wy_pr rfl) wt_227 wf_7_1 (v := 229) wl_227_1 ?_
  refine wa_iload_n (n := 2) rfl ?_
  refine wb_lald 229 rfl (wy_pr rfl) wt_229 (n := (S 228 (-1))) (bl1) (by omega) (by omega) (v := (a0 * 4294967296 + (x.length : Int))) (hvy) (fun r3 => ?_)
  refine wa_lstore (n := 4) rfl ?_
  refine wa_iload_n (n := 1) rfl ?_
  refine wb_sw (w_rg0 (by omega) (by omega)) (tb := 14) rfl ⟨_, rfl⟩ ?_
  refine wa_aload_n (n := 0) rfl ?_
  refine wa_iload_n (n := 3) rfl ?_
  refine wa_lload (n := 4) rfl ?_
  refine wa_cv 226 rfl (wy_pr rfl) wt_226 (M2 := mS [228, 229]) rfl at_XK_giveClass ⟨_, rfl⟩ rfl rfl ⟨trivial, trivial, trivial, (Or.inr ⟨wy_pr rfl, mS_no rfl⟩), trivial, trivial⟩ trivial (fun _ _ q => q) ?_ (fun _ _ _ q => q)
  refine wa_aload_n (n := 0) rfl ?_
  refine wb_gf4 226 rfl (wy_pr rfl) wt_226 wf_8_0 (v := 72) wl_226_0 ?_
  refine wb_gf5 72 rfl (wy_pr rfl) wt_72 wf_2_1 (v := 73) (h72) (fun r4 => ?_)
  refine wa_astore (n := 4) rfl ?_
  refine wa_iconst ?_
  refine wa_istore (n := 5) rfl ?_
  refine wa_iload_n (n := 1) rfl ?_
  refine wa_iconst ?_
  refine wa_icmpne (w_rg0 (by omega) (by omega)) (w_rg0 (by omega) (by omega)) ⟨_, rfl⟩ (fun c5 => ?_) (fun c5 => ?_)
  · skip
    exact absurd c5 (by omega)
  · skip
    refine wa_aload (n := 4) rfl ?_
    refine wb_gf4 73 rfl (wy_pr rfl) wt_73 wf_3_0 (v := 74) wl_73_0 ?_
    refine wa_aload_n (n := 0) rfl ?_
    refine wb_gf4 226 rfl (wy_pr rfl) wt_226 wf_8_0 (v := 72) wl_226_0 ?_
    refine wb_gf4 72 rfl (wy_pr rfl) wt_72 wf_2_0 (v := 2) wl_72_0 ?_
    refine wb_gf4 2 rfl (wy_pr rfl) wt_2 wf_9_0 (v := 3) wl_2_0 ?_
    refine wa_lload_n (n := 2) rfl ?_
    refine wa_cs (M2 := mS [228, 229]) rfl at_X_sliceStart ⟨_, rfl⟩ rfl rfl ⟨trivial, (Or.inr ⟨wy_pr rfl, mS_no rfl⟩), (Or.inr ⟨wy_pr rfl, mS_no rfl⟩), trivial, trivial, trivial⟩ ⟨(Or.inr ⟨wy_pr rfl, mS_no rfl⟩), (Or.inr ⟨wy_pr rfl, mS_no rfl⟩), trivial⟩ (fun _ _ q => q) ?_ (fun _ _ _ q => q)
    refine wa_lload_n (n := 0) rfl ?_
    refine wa_bipush (w_rg2 (by omega) (by omega)) ?_
    refine wa_lushr ?_
    refine wb_l2i_r (y := a0) (sl_s ⟨by omega, by omega⟩ ⟨by omega, by omega⟩) ?_
    refine wa_ireturn rfl ?_
    show wJ _ _ _ _ _ _ _ _ _ _
    refine wa_lload_n (n := 2) rfl ?_
    refine wa_cs (M2 := mS [228, 229]) rfl at_X_sliceSize ⟨_, rfl⟩ rfl rfl ⟨trivial, (Or.inr ⟨wy_pr rfl, mS_no rfl⟩), (Or.inr ⟨wy_pr rfl, mS_no rfl⟩), trivial, trivial, trivial⟩ ⟨trivial, (Or.inr ⟨wy_pr rfl, mS_no rfl⟩), (Or.inr ⟨wy_pr rfl, mS_no rfl⟩), trivial⟩ (fun _ _ q => q) ?_ (fun _ _ _ q => q)
    refine wa_lload_n (n := 0) rfl ?_
    refine wb_l2i_r (y := (x.length : Int)) (sl_z ⟨by omega, by omega⟩ ⟨by omega, by omega⟩) ?_
    refine wa_ireturn rfl ?_
    show wJ _ _ _ _ _ _ _ _ _ _
    refine wa_cv 74 rfl (wy_pr rfl) wt_74 (M2 := mS []) rfl at_XW_wordAt ⟨_, rfl⟩ rfl rfl ⟨trivial, (Or.inr ⟨wy_pr rfl, mS_no rfl⟩), (Or.inr ⟨wy_pr rfl, mS_no rfl⟩), trivial, trivial, trivial⟩ trivial (fun _ _ q => mS_sub (by decide) q) (wa_74 (S := S) (b := 3) (a0 := a0) (n := (x.length : Int)) (wy_pr rfl) wt_3 ⟨by omega, by omega, by omega, by omega⟩ hw hL) (fun oq6 Sq6 hp7 q6 => ?_)
    rcases q6 with ⟨rfl, wd, rfl, hwd⟩
    show wJ _ _ _ _ _ _ _ _ _ _
    have hwr : -1 ≤ wd ∧ wd ≤ 1000000 := by rcases hwd with ⟨z1, z2, -⟩ | ⟨z1, -⟩ <;> omega
    have hci := ctw_73 (T := T) hw hcw hc7 hx hwd
    have hno : wd = -1 → cIx T cs x = -1 := fun z => by rw [← hci]; refine ctA_0 (fun i hi => decide_eq_false ?_); have z1 := (hcw.2 (i : Int) (by omega) (by omega)).1.1; rw [z]; omega
    refine wa_istore (n := 5) rfl ?_
    refine wa_fall ⟨_, rfl⟩ ?_
    refine wa_iload (n := 5) rfl ?_
    refine wa_iconst ?_
    refine wa_icmpne (w_rg0 (by omega) (by omega)) (w_rg0 (by omega) (by omega)) ⟨_, rfl⟩ (fun c8 => ?_) (fun c8 => ?_)
    · skip
      refine wa_aload (n := 4) rfl ?_
      refine wa_iload (n := 5) rfl ?_
      refine wa_cv 73 rfl (wy_pr rfl) wt_73 (M2 := mS []) rfl at_XO_classTyped ⟨_, rfl⟩ rfl rfl ⟨trivial, (Or.inr ⟨wy_pr rfl, mS_no rfl⟩), (Or.inr ⟨wy_pr rfl, mS_no rfl⟩), trivial, trivial, trivial⟩ trivial (fun _ _ q => mS_sub (by decide) q) (wJ_mono (ctk_73 (S := S) (v := wd) hC hn hm ⟨by omega, by omega⟩) (fun o Z hz => (⟨hz.1, by rw [← hci]; exact hz.2⟩ : S = Z ∧ o = .inl (some (0, cIx T cs x))))) (fun oq9 Sq9 hp10 q9 => ?_)
      rcases q9 with ⟨rfl, rfl⟩
      show wJ _ _ _ _ _ _ _ _ _ _
      refine wa_fall ⟨_, rfl⟩ ?_
      refine wa_istore (n := 6) rfl ?_
      refine wa_iload (n := 6) rfl ?_
      refine wa_iconst ?_
      refine wa_icmpne (w_rg0 (by omega) (by omega)) (w_rg0 (by omega) (by omega)) ⟨_, rfl⟩ (fun c11 => ?_) (fun c11 => ?_)
      · skip
        refine wa_aload_n (n := 0) rfl ?_
        refine wa_iconst ?_
        refine wa_bipush (w_rg2 (by omega) (by omega)) ?_
        refine wa_iload (n := 6) rfl ?_
        refine wa_i2l (w_rg0 (by omega) (by omega)) ?_
        refine wa_cv 226 rfl (wy_pr rfl) wt_226 (M2 := mS [228, 229]) rfl at_XK_give ⟨_, rfl⟩ rfl rfl ⟨trivial, trivial, (Or.inr ⟨wy_pr rfl, mS_no rfl⟩), (Or.inr ⟨wy_pr rfl, mS_no rfl⟩), trivial, trivial, trivial⟩ trivial (fun _ _ q => q) (gw_226 (S := S) (n := 1) (k := 8) (v := (cIx T cs x)) (h := h) (c := c) (p := p) (ln := (S 228 (-1))) hC hI ⟨by omega, by omega⟩ ⟨by omega, by omega⟩ (bh) (bc) (bp) (rfl) (bl1) ⟨by omega, by omega⟩ ⟨by omega, by omega, by omega⟩ ⟨by omega, by omega⟩ ⟨by omega, by omega⟩) (fun oq12 Sq12 hp13 q12 => ?_)
        rcases q12 with ⟨rfl, A12, ra12, rfl⟩
        show wJ _ _ _ _ _ _ _ _ _ _
        refine wa_fall ⟨_, rfl⟩ ?_
        refine wa_return rfl ?_
        show wJ _ _ _ _ _ _ _ _ _ _
        refine wa_fall ⟨_, rfl⟩ ?_
        refine wa_return rfl ?_
        exact ⟨rfl, Or.inr ⟨by omega, A12, ra12, rfl⟩⟩
      · skip
        refine wa_aload_n (n := 0) rfl ?_
        refine wa_bipush (w_rg2 (by omega) (by omega)) ?_
        refine wb_pfi 226 rfl (wy_pr rfl) wt_226 wf_8_16 (n := 16) rfl ⟨(by omega), (by omega)⟩ ?_
        refine wa_goto ⟨_, rfl⟩ ?_
        refine wa_return rfl ?_
        show wJ _ _ _ _ _ _ _ _ _ _
        refine wa_fall ⟨_, rfl⟩ ?_
        refine wa_return rfl ?_
        exact ⟨rfl, Or.inl ⟨by omega, rfl⟩⟩
    · skip
      refine wa_iconst ?_
      refine wa_goto ⟨_, rfl⟩ ?_
      refine wa_istore (n := 6) rfl ?_
      refine wa_iload (n := 6) rfl ?_
      refine wa_iconst ?_
      refine wa_icmpne (w_rg0 (by omega) (by omega)) (w_rg0 (by omega) (by omega)) ⟨_, rfl⟩ (fun c14 => ?_) (fun c14 => ?_)
      · skip
        exact absurd c14 (by omega)
      · skip
        refine wa_aload_n (n := 0) rfl ?_
        refine wa_bipush (w_rg2 (by omega) (by omega)) ?_
        refine wb_pfi 226 rfl (wy_pr rfl) wt_226 wf_8_16 (n := 16) rfl ⟨(by omega), (by omega)⟩ ?_
        refine wa_goto ⟨_, rfl⟩ ?_
        refine wa_return rfl ?_
        show wJ _ _ _ _ _ _ _ _ _ _
        refine wa_fall ⟨_, rfl⟩ ?_
        refine wa_return rfl ?_
        exact ⟨rfl, Or.inl ⟨by omega, rfl⟩⟩
theorem xb7n_73_226 {c p h ky : Int} (hP : xP 226 c p h S) (h72 : S 72 1 = 73) (hh1 : 1 ≤ h) (hky : S 228 (h - 1) = ky) (hk3 : ky ≠ 3) : wJ (pe_GA xs) wY0 (mS [228, 229]) (d + 11) t_XK_callBuiltin ((pe_at t_XK_callBuiltin.bl 0).getD (0, [])).2 [(0, (2, 226)), (1, (0, 7))] [] S (fun o Z => o = .inl none ∧ w_up S 226 16 12 = Z) := by
  obtain ⟨⟨hC, hI⟩, ⟨bc, bc0, bc1⟩, ⟨bp, bp0, bp1⟩, ⟨bh, bh0, bh1, bh2⟩, bl1, bl2, bl3⟩ := hP
  replace bp : S 231 (c - 1) = p := bp
  replace bh : S 227 2 = h := bh
  replace bh2 : h ≤ S 228 (-1) := bh2
  replace bl1 : S 229 (-1) = S 228 (-1) := bl1
  replace bl2 : 64 ≤ S 228 (-1) := bl2
  replace bl3 : S 228 (-1) ≤ 4095 := bl3
  refine wa_aload_n (n := 0) rfl ?_
  refine wb_gf4 226 rfl (wy_pr rfl) wt_226 wf_8_3 (v := 227) wl_226_3 ?_
  refine wb_gfi 227 rfl (wy_pr rfl) wt_227 wf_7_2 (v := h) (bh) (fun r1 => ?_)
  refine wa_iconst ?_
  refine wa_isub ?_
  refine wa_istore_n (n := 2) rfl ?_
  refine wa_aload_n (n := 0) rfl ?_
  refine wb_gf4 226 rfl (wy_pr rfl) wt_226 wf_8_3 (v := 227) wl_226_3 ?_
  refine wb_gf4 227 rfl (wy_pr rfl) wt_227 wf_7_0 (v := 228) wl_227_0 ?_
  refine wa_iload_n (n := 2) rfl ?_
  refine wb_bald 228 rfl (wy_pr rfl) wt_228 (n := (S 228 (-1))) (rfl) (by omega) (by omega) (v := ky) (hky) (fun r2 => ?_)
  refine wa_istore_n (n := 3) rfl ?_
  refine wa_aload_n (n := 0) rfl ?_
  refine wb_gf4 226 rfl (wy_pr rfl) wt_226 wf_8_3 (v := 227) wl_226_3 ?_
  refine wb_gf4 227 rfl (wy_pr rfl) wt_227 wf_7_1 (v := 229) wl_227_1 ?_
  refine wa_iload_n (n := 2) rfl ?_
  refine wb_lald 229 rfl (wy_pr rfl) wt_229 (n := (S 228 (-1))) (bl1) (by omega) (by omega) (v := (S 229 (h - 1))) rfl (fun r3 => ?_)
  refine wa_lstore (n := 4) rfl ?_
  refine wa_iload_n (n := 1) rfl ?_
  refine wb_sw (w_rg0 (by omega) (by omega)) (tb := 14) rfl ⟨_, rfl⟩ ?_
  refine wa_aload_n (n := 0) rfl ?_
  refine wa_iload_n (n := 3) rfl ?_
  refine wa_lload (n := 4) rfl ?_
  refine wa_cv 226 rfl (wy_pr rfl) wt_226 (M2 := mS [228, 229]) rfl at_XK_giveClass ⟨_, rfl⟩ rfl rfl ⟨trivial, trivial, trivial, (Or.inr ⟨wy_pr rfl, mS_no rfl⟩), trivial, trivial⟩ trivial (fun _ _ q => q) ?_ (fun _ _ _ q => q)
  refine wa_aload_n (n := 0) rfl ?_
  refine wb_gf4 226 rfl (wy_pr rfl) wt_226 wf_8_0 (v := 72) wl_226_0 ?_
  refine wb_gf5 72 rfl (wy_pr rfl) wt_72 wf_2_1 (v := 73) (h72) (fun r4 => ?_)
  refine wa_astore (n := 4) rfl ?_
  refine wa_iconst ?_
  refine wa_istore (n := 5) rfl ?_
  refine wa_iload_n (n := 1) rfl ?_
  refine wa_iconst ?_
  refine wa_icmpne (w_rg0 (by omega) (by omega)) (w_rg0 (by omega) (by omega)) ⟨_, rfl⟩ (fun c5 => ?_) (fun c5 => ?_)
  · skip
    refine wa_iload (n := 5) rfl ?_
    refine wa_iconst ?_
    refine wa_icmpne (w_rg0 (by omega) (by omega)) (w_rg0 (by omega) (by omega)) ⟨_, rfl⟩ (fun c6 => ?_) (fun c6 => ?_)
    · skip
      exact absurd c6 (by omega)
    · skip
      refine wa_iconst ?_
      refine wa_goto ⟨_, rfl⟩ ?_
      refine wa_istore (n := 6) rfl ?_
      refine wa_iload (n := 6) rfl ?_
      refine wa_iconst ?_
      refine wa_icmpne (w_rg0 (by omega) (by omega)) (w_rg0 (by omega) (by omega)) ⟨_, rfl⟩ (fun c7 => ?_) (fun c7 => ?_)
      · skip
        exact absurd c7 (by omega)
      · skip
        refine wa_aload_n (n := 0) rfl ?_
        refine wa_bipush (w_rg2 (by omega) (by omega)) ?_
        refine wb_pfi 226 rfl (wy_pr rfl) wt_226 wf_8_16 (n := 16) rfl ⟨(by omega), (by omega)⟩ ?_
        refine wa_goto ⟨_, rfl⟩ ?_
        refine wa_return rfl ?_
        show wJ _ _ _ _ _ _ _ _ _ _
        refine wa_fall ⟨_, rfl⟩ ?_
        refine wa_return rfl ?_
        exact ⟨rfl, rfl⟩
  · skip
    exfalso; omega
theorem zb7_73_226 (h : stC 226 S K) (hi : cIn S K 28 7 b9) (h72 : S 72 1 = 73) (hh1 : 1 ≤ K.1.length) (hn : S 73 2 = (cs.length : Int)) (hm : cs.length ≤ 60) (hk : (K.1.getD (K.1.length - 1) (0, 0, [])).1 = 3) (hp3 : cTt S) (hw : wd_at S 74 64) (hL : wd_L S 74 64) (hcw : cnW 92 74 T cs S) (hc7 : ∀ k : Int, 0 ≤ k → k < (cs.length : Int) → S 92 k < S 74 7) (h7m : S 74 7 ≤ 1000000) (hc : 0 ≤ (cIx T cs (K.1.getD (K.1.length - 1) (0, 0, [])).2.2)) : cSt xs d 226 S (kP K 1 (8, (cIx T cs (K.1.getD (K.1.length - 1) (0, 0, [])).2.2), [])) := by
  obtain ⟨h1, ⟨h2, h2b⟩, ⟨h3, h4, h5⟩, -⟩ := id h
  have hcy := c_at h1 (i := K.1.length - 1) (by omega) (j := (K.1.length : Int) - 1) (by omega)
  have ef : ∀ (j : Nat) (x : Int), j < 215 → (w_up S 226 16 0) j x = S j x := fun j x j0 => w_up_slot (by omega)
  obtain ⟨s, s1, s2, s3⟩ := cV_t hcy hk
  have p3 := hp3.2
  have eF : ∀ j : Nat, j < 215 → (w_up S 226 16 0) j = S j := fun j j0 => funext (fun x => ef j x j0)
  have hcal := xb7_73_226 (xs := xs) (d := d) (T := T) (cs := cs) (x := (K.1.getD (K.1.length - 1) (0, 0, [])).2.2) (a0 := s) (xP_of (Or.inr rfl) h) ((ef 72 1 (by first | decide | omega)).trans h72) ((ef 73 2 (by first | decide | omega)).trans hn) hm (by omega) ((w_up_slot (by first | decide | omega)).trans (cV_k hcy hk)) ((w_up_slot (by first | decide | omega)).trans s1) ⟨s2.1, by rw [ef 3 _ (by first | decide | omega)]; omega⟩ (by rw [ef 3 _ (by first | decide | omega)]; omega) (fun i hi2 => (ef 3 _ (by first | decide | omega)).trans (s3 i hi2)) (by unfold wd_at; rw [eF _ (by first | decide | omega), eF _ (by first | decide | omega), eF _ (by first | decide | omega), eF _ (by first | decide | omega), eF _ (by first | decide | omega), eF _ (by first | decide | omega)]; exact hw) (by unfold wd_L; rw [eF _ (by first | decide | omega), eF _ (by first | decide | omega), eF _ (by first | decide | omega), eF _ (by first | decide | omega), eF _ (by first | decide | omega), eF _ (by first | decide | omega), eF _ (by first | decide | omega)]; exact hL) (cnW_ag hcw (fun j x hj => ef j x (by omega))) (fun k k0 k1 => by rw [ef 92 _ (by first | decide | omega), ef 74 _ (by first | decide | omega)]; exact hc7 k k0 k1) (by rw [ef 74 _ (by first | decide | omega)]; exact h7m)
  exact cs_b_226 (m := 1) h hi.1 hi.2.1 hi.2.2 (by first | decide | omega) (fun q => by omega) (fun x hx => hx) (by unfold mS; decide) (wJ_mono hcal (fun o Z hz => ⟨hz.1, hz.2.elim (fun z => absurd z.1 (by omega)) (fun z => z.2)⟩)) rfl hh1 (cV_e (by first | decide | omega) rfl)
theorem zb7m_73_226 (h : stC 226 S K) (hi : cIn S K 28 7 b9) (h72 : S 72 1 = 73) (hh1 : 1 ≤ K.1.length) (hn : S 73 2 = (cs.length : Int)) (hm : cs.length ≤ 60) (hk : (K.1.getD (K.1.length - 1) (0, 0, [])).1 = 3) (hp3 : cTt S) (hw : wd_at S 74 64) (hL : wd_L S 74 64) (hcw : cnW 92 74 T cs S) (hc7 : ∀ k : Int, 0 ≤ k → k < (cs.length : Int) → S 92 k < S 74 7) (h7m : S 74 7 ≤ 1000000) (hc : (cIx T cs (K.1.getD (K.1.length - 1) (0, 0, [])).2.2) = -1) : cSt xs d 226 S (kTh K (2, 12, [])) := by
  obtain ⟨h1, ⟨h2, h2b⟩, ⟨h3, h4, h5⟩, -⟩ := id h
  have hcy := c_at h1 (i := K.1.length - 1) (by omega) (j := (K.1.length : Int) - 1) (by omega)
  have ef : ∀ (j : Nat) (x : Int), j < 215 → (w_up S 226 16 0) j x = S j x := fun j x j0 => w_up_slot (by omega)
  obtain ⟨s, s1, s2, s3⟩ := cV_t hcy hk
  have p3 := hp3.2
  have eF : ∀ j : Nat, j < 215 → (w_up S 226 16 0) j = S j := fun j j0 => funext (fun x => ef j x j0)
  have hcal := xb7_73_226 (xs := xs) (d := d) (T := T) (cs := cs) (x := (K.1.getD (K.1.length - 1) (0, 0, [])).2.2) (a0 := s) (xP_of (Or.inr rfl) h) ((ef 72 1 (by first | decide | omega)).trans h72) ((ef 73 2 (by first | decide | omega)).trans hn) hm (by omega) ((w_up_slot (by first | decide | omega)).trans (cV_k hcy hk)) ((w_up_slot (by first | decide | omega)).trans s1) ⟨s2.1, by rw [ef 3 _ (by first | decide | omega)]; omega⟩ (by rw [ef 3 _ (by first | decide | omega)]; omega) (fun i hi2 => (ef 3 _ (by first | decide | omega)).trans (s3 i hi2)) (by unfold wd_at; rw [eF _ (by first | decide | omega), eF _ (by first | decide | omega), eF _ (by first | decide | omega), eF _ (by first | decide | omega), eF _ (by first | decide | omega), eF _ (by first | decide | omega)]; exact hw) (by unfold wd_L; rw [eF _ (by first | decide | omega), eF _ (by first | decide | omega), eF _ (by first | decide | omega), eF _ (by first | decide | omega), eF _ (by first | decide | omega), eF _ (by first | decide | omega), eF _ (by first | decide | omega)]; exact hL) (cnW_ag hcw (fun j x hj => ef j x (by omega))) (fun k k0 k1 => by rw [ef 92 _ (by first | decide | omega), ef 74 _ (by first | decide | omega)]; exact hc7 k k0 k1) (by rw [ef 74 _ (by first | decide | omega)]; exact h7m)
  exact cx_b_226 h hi.1 hi.2.1 hi.2.2 (by first | decide | omega) (fun q => by omega) (fun x hx => hx) (by unfold mS; decide) (by first | decide | omega) (wJ_mono hcal (fun o Z hz => ⟨hz.1, hz.2.elim (fun z => z.2) (fun z => absurd z.1 (by omega))⟩))
theorem zb7e_73_226 (h : stC 226 S K) (hi : cIn S K 28 7 b9) (h72 : S 72 1 = 73) (hh1 : 1 ≤ K.1.length) (hk : (K.1.getD (K.1.length - 1) (0, 0, [])).1 ≠ 3) : cSt xs d 226 S (kTh K (2, 12, [])) := by
  obtain ⟨h1, -, -⟩ := id h
  have hcy := c_at h1 (i := K.1.length - 1) (by omega) (j := (K.1.length : Int) - 1) (by omega)
  exact cx_b_226 h hi.1 hi.2.1 hi.2.2 (by first | decide | omega) (fun q => by omega) (fun x hx => hx) (by unfold mS; decide) (by first | decide | omega) (xb7n_73_226 (xP_of (Or.inr rfl) h) ((w_up_slot (by first | decide | omega)).trans h72) (by omega) ((w_up_slot (by first | decide | omega)).trans hcy.1) hk)
theorem ctl_162 (hC : w_CL S) (hn : S 162 2 = (m : Int)) (hm : m ≤ 60) (hv : -2147483648 ≤ v ∧ v ≤ 2147483647) : ∀ (f q : Nat), q + f = m → (∀ i : Nat, i < q → S 181 (i : Int) ≠ v) → wJ (pe_GA xs) wY0 M d t_XO_classTyped ((pe_at t_XO_classTyped.bl 1).getD (0, [])).2 [(0, (2, 162)), (1, (0, v)), (2, (0, (q : Int)))] [] S (fun o Z => S = Z ∧ o = .inl (some (0, ctA m (fun i => decide (S 181 (i : Int) = v))))) := by
  intro f
  induction f with
  | zero =>
    intro q hq hno
    have hqm : q = m := by omega
    rw [hqm] at hno
    rw [ctA_0 (fun i hi => decide_eq_false (hno i hi))]
    refine wa_iload_n (n := 2) rfl ?_
    refine wa_aload_n (n := 0) rfl ?_
    refine wb_gfi 162 rfl (wy_pr rfl) wt_162 wf_3_2 (v := (m : Int)) (hn) (fun r1 => ?_)
    refine wa_icmpge (w_rg0 (by omega) (by omega)) (w_rg0 (by omega) (by omega)) ⟨_, rfl⟩ (fun c2 => ?_) (fun c2 => ?_)
    · skip
      refine wa_iconst ?_
      refine wa_ireturn rfl ?_
      exact ⟨rfl, rfl⟩
    · skip
      exfalso; omega
  | succ f ih =>
    intro q hq hno
    refine wa_iload_n (n := 2) rfl ?_
    refine wa_aload_n (n := 0) rfl ?_
    refine wb_gfi 162 rfl (wy_pr rfl) wt_162 wf_3_2 (v := (m : Int)) (hn) (fun r51 => ?_)
    refine wa_icmpge (w_rg0 (by omega) (by omega)) (w_rg0 (by omega) (by omega)) ⟨_, rfl⟩ (fun c52 => ?_) (fun c52 => ?_)
    · skip
      exfalso; omega
    · skip
      refine wa_aload_n (n := 0) rfl ?_
      refine wb_gf4 162 rfl (wy_pr rfl) wt_162 wf_3_1 (v := 175) wl_162_1 ?_
      refine wa_iconst ?_
      refine wb_aald5 175 5 rfl rfl (wy_pr rfl) wt_175 (by rw [show _ = _ from ((cl_175 hC))]; omega) wl_175_5 ?_
      refine wa_iload_n (n := 2) rfl ?_
      refine wb_iald 181 rfl (wy_pr rfl) wt_181 (n := 60) ((cl_181 hC)) (by omega) (by omega) (v := (S 181 (q : Int))) rfl (fun r53 => ?_)
      refine wa_iload_n (n := 1) rfl ?_
      refine wa_icmpne (w_rg0 (by omega) (by omega)) (w_rg0 (by omega) (by omega)) ⟨_, rfl⟩ (fun c54 => ?_) (fun c54 => ?_)
      · skip
        refine wa_iinc rfl rfl ?_
        refine wa_goto ⟨_, rfl⟩ ?_
        refine wJ_S (ih (q + 1) (by omega) (fun i hi => ?_)) ⟨rfl, rfl, rfl, trivial⟩
        by_cases ce : i = q
        · rw [ce]; omega
        · exact hno i (by omega)
      · skip
        refine wa_iload_n (n := 2) rfl ?_
        refine wa_ireturn rfl ?_
        rw [ctA_q (q := q) (by omega) (decide_eq_true (by omega)) (fun i hi => decide_eq_false (hno i hi))]
        exact ⟨rfl, rfl⟩
theorem ctk_162 (hC : w_CL S) (hn : S 162 2 = (m : Int)) (hm : m ≤ 60) (hv : -2147483648 ≤ v ∧ v ≤ 2147483647) : wJ (pe_GA xs) wY0 M d t_XO_classTyped ((pe_at t_XO_classTyped.bl 0).getD (0, [])).2 [(0, (2, 162)), (1, (0, v))] [] S (fun o Z => S = Z ∧ o = .inl (some (0, ctA m (fun i => decide (S 181 (i : Int) = v))))) := by
  refine wa_iconst ?_
  refine wa_istore_n (n := 2) rfl ?_
  refine wa_fall ⟨_, rfl⟩ ?_
  exact wJ_S (ctl_162 hC hn hm hv m 0 (by omega) (fun i hi => absurd hi (Nat.not_lt_zero _))) ⟨rfl, rfl, rfl, trivial⟩
theorem ctw_162 {a0 wd : Int} (hw : wd_at S 163 64) (hcw : cnW 181 163 T cs S) (hc7 : ∀ k : Int, 0 ≤ k → k < (cs.length : Int) → S 181 k < S 163 7) (hx : ∀ i : Nat, i < x.length → S 3 (a0 + (i : Int)) = x.getD i 0) (hq : (0 ≤ wd ∧ wd < S 163 7 ∧ wq (S 164) (S 165) (S 166) (S 3) a0 (x.length : Int) wd) ∨ (wd = -1 ∧ ∀ k : Int, 0 ≤ k → k < S 163 7 → ¬ wq (S 164) (S 165) (S 166) (S 3) a0 (x.length : Int) k)) : ctA cs.length (fun i => decide (S 181 (i : Int) = wd)) = cIx T cs x := by
  refine ctA_cg (fun i hi => decide_eq_decide.mpr ?_)
  obtain ⟨b1, b2, b3, b4, b5⟩ := hcw.2 (i : Int) (by omega) (by omega)
  have b7 := hc7 (i : Int) (by omega) (by omega)
  have hwk : wq (S 164) (S 165) (S 166) (fun y => (cNa T cs (i : Int)).getD y.toNat 0) 0 ((cNa T cs (i : Int)).length : Int) (S 181 (i : Int)) := ⟨b2, fun q hq2 => by
    rw [Int.toNat_natCast] at hq2
    have := b4 q hq2
    show S 164 (S 165 (S 181 (i : Int)) + (q : Int)) = (cNa T cs (i : Int)).getD ((0 : Int) + (q : Int)).toNat 0
    rw [show ((0 : Int) + (q : Int)).toNat = q by omega]; exact this⟩
  have key : (((cNa T cs (i : Int)).length : Int) = (x.length : Int) ∧ ∀ q : Nat, q < (((cNa T cs (i : Int)).length : Int)).toNat → (fun y : Int => (cNa T cs (i : Int)).getD y.toNat 0) (0 + (q : Int)) = S 3 (a0 + (q : Int))) ↔ cNa T cs (i : Int) = x := by
    constructor
    · rintro ⟨e1, e2⟩
      refine nth_ext (by omega) (fun q hq2 => ?_)
      have z := e2 q (by rw [Int.toNat_natCast]; exact hq2)
      have z2 : (cNa T cs (i : Int)).getD ((0 : Int) + (q : Int)).toNat 0 = S 3 (a0 + (q : Int)) := z
      rw [show ((0 : Int) + (q : Int)).toNat = q by omega] at z2
      rw [z2]; exact hx q (by omega)
    · intro e
      refine ⟨by rw [e], fun q hq2 => ?_⟩
      rw [Int.toNat_natCast, e] at hq2
      show (cNa T cs (i : Int)).getD ((0 : Int) + (q : Int)).toNat 0 = S 3 (a0 + (q : Int))
      rw [show ((0 : Int) + (q : Int)).toNat = q by omega, e]; exact (hx q hq2).symm
  rcases hq with ⟨q0, q1, q2⟩ | ⟨q0, q1⟩
  · exact (wq_2 (w := 163) hw ⟨b1.1, b7⟩ ⟨q0, q1⟩ hwk q2).trans key
  · constructor
    · intro e; omega
    · intro e
      refine absurd ?_ (q1 (S 181 (i : Int)) b1.1 b7)
      have z := key.mpr e
      rw [z.1] at hwk
      exact ⟨hwk.1, fun q hq2 => (hwk.2 q hq2).trans (z.2 q (by rw [z.1]; exact hq2))⟩
theorem xb7_162_215 {c p h a0 : Int} (hP : xP 215 c p h S) (h72 : S 72 1 = 162) (hn : S 162 2 = (cs.length : Int)) (hm : cs.length ≤ 60) (hh1 : 1 ≤ h) (hky : S 217 (h - 1) = 3) (hvy : S 218 (h - 1) = a0 * 4294967296 + (x.length : Int)) (ha : 0 ≤ a0 ∧ a0 + (x.length : Int) ≤ S 3 (-1)) (h3 : S 3 (-1) ≤ 16777216) (hx : ∀ i : Nat, i < x.length → S 3 (a0 + (i : Int)) = x.getD i 0) (hw : wd_at S 163 64) (hL : wd_L S 163 64) (hcw : cnW 181 163 T cs S) (hc7 : ∀ k : Int, 0 ≤ k → k < (cs.length : Int) → S 181 k < S 163 7) (h7m : S 163 7 ≤ 1000000) : wJ (pe_GA xs) wY0 (mS [217, 218]) (d + 11) t_XK_callBuiltin ((pe_at t_XK_callBuiltin.bl 0).getD (0, [])).2 [(0, (2, 215)), (1, (0, 7))] [] S (fun o Z => o = .inl none ∧ ((cIx T cs x = -1 ∧ w_up S 215 16 12 = Z) ∨ (0 ≤ cIx T cs x ∧ sO 215 h c p 1 8 (cIx T cs x) S Z))) := by
  obtain ⟨⟨hC, hI⟩, ⟨bc, bc0, bc1⟩, ⟨bp, bp0, bp1⟩, ⟨bh, bh0, bh1, bh2⟩, bl1, bl2, bl3⟩ := hP
  replace bp : S 220 (c - 1) = p := bp
  replace bh : S 216 2 = h := bh
  replace bh2 : h ≤ S 217 (-1) := bh2
  replace bl1 : S 218 (-1) = S 217 (-1) := bl1
  replace bl2 : 64 ≤ S 217 (-1) := bl2
  replace bl3 : S 217 (-1) ≤ 4095 := bl3
  have hcr := ctA_rg (m := cs.length) (pr := fun k => decide (cNa T cs (k : Int) = x))
  replace hcr : cIx T cs x = -1 ∨ (0 ≤ cIx T cs x ∧ cIx T cs x < (cs.length : Int)) := hcr
  refine wa_aload_n (n := 0) rfl ?_
  refine wb_gf4 215 rfl (wy_pr rfl) wt_215 wf_8_3 (v := 216) wl_215_3 ?_
  refine wb_gfi 216 rfl (wy_pr rfl) wt_216 wf_7_2 (v := h) (bh) (fun r1 => ?_)
  refine wa_iconst ?_
  refine wa_isub ?_
  refine wa_istore_n (n := 2) rfl ?_
  refine wa_aload_n (n := 0) rfl ?_
  refine wb_gf4 215 rfl (wy_pr rfl) wt_215 wf_8_3 (v := 216) wl_215_3 ?_
  refine wb_gf4 216 rfl (wy_pr rfl) wt_216 wf_7_0 (v := 217) wl_216_0 ?_
  refine wa_iload_n (n := 2) rfl ?_
  refine wb_bald 217 rfl (wy_pr rfl) wt_217 (n := (S 217 (-1))) (rfl) (by omega) (by omega) (v := 3) (hky) (fun r2 => ?_)
  refine wa_istore_n (n := 3) rfl ?_
  refine wa_aload_n (n := 0) rfl ?_
  refine wb_gf4 215 rfl (wy_pr rfl) wt_215 wf_8_3 (v := 216) wl_215_3 ?_
  refine wb_gf4 216 rfl (wy_pr rfl) wt_216 wf_7_1 (v := 218) wl_216_1 ?_
  refine wa_iload_n (n := 2) rfl ?_
  refine wb_lald 218 rfl (wy_pr rfl) wt_218 (n := (S 217 (-1))) (bl1) (by omega) (by omega) (v := (a0 * 4294967296 + (x.length : Int))) (hvy) (fun r3 => ?_)
  refine wa_lstore (n := 4) rfl ?_
  refine wa_iload_n (n := 1) rfl ?_
  refine wb_sw (w_rg0 (by omega) (by omega)) (tb := 14) rfl ⟨_, rfl⟩ ?_
  refine wa_aload_n (n := 0) rfl ?_
  refine wa_iload_n (n := 3) rfl ?_
  refine wa_lload (n := 4) rfl ?_
  refine wa_cv 215 rfl (wy_pr rfl) wt_215 (M2 := mS [217, 218]) rfl at_XK_giveClass ⟨_, rfl⟩ rfl rfl ⟨trivial, trivial, trivial, (Or.inr ⟨wy_pr rfl, mS_no rfl⟩), trivial, trivial⟩ trivial (fun _ _ q => q) ?_ (fun _ _ _ q => q)
  refine wa_aload_n (n := 0) rfl ?_
  refine wb_gf4 215 rfl (wy_pr rfl) wt_215 wf_8_0 (v := 72) wl_215_0 ?_
  refine wb_gf5 72 rfl (wy_pr rfl) wt_72 wf_2_1 (v := 162) (h72) (fun r4 => ?_)
  refine wa_astore (n := 4) rfl ?_
  refine wa_iconst ?_
  refine wa_istore (n := 5) rfl ?_
  refine wa_iload_n (n := 1) rfl ?_
  refine wa_iconst ?_
  refine wa_icmpne (w_rg0 (by omega) (by omega)) (w_rg0 (by omega) (by omega)) ⟨_, rfl⟩ (fun c5 => ?_) (fun c5 => ?_)
  · skip
    exact absurd c5 (by omega)
  · skip
    refine wa_aload (n := 4) rfl ?_
    refine wb_gf4 162 rfl (wy_pr rfl) wt_162 wf_3_0 (v := 163) wl_162_0 ?_
    refine wa_aload_n (n := 0) rfl ?_
    refine wb_gf4 215 rfl (wy_pr rfl) wt_215 wf_8_0 (v := 72) wl_215_0 ?_
    refine wb_gf4 72 rfl (wy_pr rfl) wt_72 wf_2_0 (v := 2) wl_72_0 ?_
    refine wb_gf4 2 rfl (wy_pr rfl) wt_2 wf_9_0 (v := 3) wl_2_0 ?_
    refine wa_lload_n (n := 2) rfl ?_
    refine wa_cs (M2 := mS [217, 218]) rfl at_X_sliceStart ⟨_, rfl⟩ rfl rfl ⟨trivial, (Or.inr ⟨wy_pr rfl, mS_no rfl⟩), (Or.inr ⟨wy_pr rfl, mS_no rfl⟩), trivial, trivial, trivial⟩ ⟨(Or.inr ⟨wy_pr rfl, mS_no rfl⟩), (Or.inr ⟨wy_pr rfl, mS_no rfl⟩), trivial⟩ (fun _ _ q => q) ?_ (fun _ _ _ q => q)
    refine wa_lload_n (n := 0) rfl ?_
    refine wa_bipush (w_rg2 (by omega) (by omega)) ?_
    refine wa_lushr ?_
    refine wb_l2i_r (y := a0) (sl_s ⟨by omega, by omega⟩ ⟨by omega, by omega⟩) ?_
    refine wa_ireturn rfl ?_
    show wJ _ _ _ _ _ _ _ _ _ _
    refine wa_lload_n (n := 2) rfl ?_
    refine wa_cs (M2 := mS [217, 218]) rfl at_X_sliceSize ⟨_, rfl⟩ rfl rfl ⟨trivial, (Or.inr ⟨wy_pr rfl, mS_no rfl⟩), (Or.inr ⟨wy_pr rfl, mS_no rfl⟩), trivial, trivial, trivial⟩ ⟨trivial, (Or.inr ⟨wy_pr rfl, mS_no rfl⟩), (Or.inr ⟨wy_pr rfl, mS_no rfl⟩), trivial⟩ (fun _ _ q => q) ?_ (fun _ _ _ q => q)
    refine wa_lload_n (n := 0) rfl ?_
    refine wb_l2i_r (y := (x.length : Int)) (sl_z ⟨by omega, by omega⟩ ⟨by omega, by omega⟩) ?_
    refine wa_ireturn rfl ?_
    show wJ _ _ _ _ _ _ _ _ _ _
    refine wa_cv 163 rfl (wy_pr rfl) wt_163 (M2 := mS []) rfl at_XW_wordAt ⟨_, rfl⟩ rfl rfl ⟨trivial, (Or.inr ⟨wy_pr rfl, mS_no rfl⟩), (Or.inr ⟨wy_pr rfl, mS_no rfl⟩), trivial, trivial, trivial⟩ trivial (fun _ _ q => mS_sub (by decide) q) (wa_163 (S := S) (b := 3) (a0 := a0) (n := (x.length : Int)) (wy_pr rfl) wt_3 ⟨by omega, by omega, by omega, by omega⟩ hw hL) (fun oq6 Sq6 hp7 q6 => ?_)
    rcases q6 with ⟨rfl, wd, rfl, hwd⟩
    show wJ _ _ _ _ _ _ _ _ _ _
    have hwr : -1 ≤ wd ∧ wd ≤ 1000000 := by rcases hwd with ⟨z1, z2, -⟩ | ⟨z1, -⟩ <;> omega
    have hci := ctw_162 (T := T) hw hcw hc7 hx hwd
    have hno : wd = -1 → cIx T cs x = -1 := fun z => by rw [← hci]; refine ctA_0 (fun i hi => decide_eq_false ?_); have z1 := (hcw.2 (i : Int) (by omega) (by omega)).1.1; rw [z]; omega
    refine wa_istore (n := 5) rfl ?_
    refine wa_fall ⟨_, rfl⟩ ?_
    refine wa_iload (n := 5) rfl ?_
    refine wa_iconst ?_
    refine wa_icmpne (w_rg0 (by omega) (by omega)) (w_rg0 (by omega) (by omega)) ⟨_, rfl⟩ (fun c8 => ?_) (fun c8 => ?_)
    · skip
      refine wa_aload (n := 4) rfl ?_
      refine wa_iload (n := 5) rfl ?_
      refine wa_cv 162 rfl (wy_pr rfl) wt_162 (M2 := mS []) rfl at_XO_classTyped ⟨_, rfl⟩ rfl rfl ⟨trivial, (Or.inr ⟨wy_pr rfl, mS_no rfl⟩), (Or.inr ⟨wy_pr rfl, mS_no rfl⟩), trivial, trivial, trivial⟩ trivial (fun _ _ q => mS_sub (by decide) q) (wJ_mono (ctk_162 (S := S) (v := wd) hC hn hm ⟨by omega, by omega⟩) (fun o Z hz => (⟨hz.1, by rw [← hci]; exact hz.2⟩ : S = Z ∧ o = .inl (some (0, cIx T cs x))))) (fun oq9 Sq9 hp10 q9 => ?_)
      rcases q9 with ⟨rfl, rfl⟩
      show wJ _ _ _ _ _ _ _ _ _ _
      refine wa_fall ⟨_, rfl⟩ ?_
      refine wa_istore (n := 6) rfl ?_
      refine wa_iload (n := 6) rfl ?_
      refine wa_iconst ?_
      refine wa_icmpne (w_rg0 (by omega) (by omega)) (w_rg0 (by omega) (by omega)) ⟨_, rfl⟩ (fun c11 => ?_) (fun c11 => ?_)
      · skip
        refine wa_aload_n (n := 0) rfl ?_
        refine wa_iconst ?_
        refine wa_bipush (w_rg2 (by omega) (by omega)) ?_
        refine wa_iload (n := 6) rfl ?_
        refine wa_i2l (w_rg0 (by omega) (by omega)) ?_
        refine wa_cv 215 rfl (wy_pr rfl) wt_215 (M2 := mS [217, 218]) rfl at_XK_give ⟨_, rfl⟩ rfl rfl ⟨trivial, trivial, (Or.inr ⟨wy_pr rfl, mS_no rfl⟩), (Or.inr ⟨wy_pr rfl, mS_no rfl⟩), trivial, trivial, trivial⟩ trivial (fun _ _ q => q) (gw_215 (S := S) (n := 1) (k := 8) (v := (cIx T cs x)) (h := h) (c := c) (p := p) (ln := (S 217 (-1))) hC hI ⟨by omega, by omega⟩ ⟨by omega, by omega⟩ (bh) (bc) (bp) (rfl) (bl1) ⟨by omega, by omega⟩ ⟨by omega, by omega, by omega⟩ ⟨by omega, by omega⟩ ⟨by omega, by omega⟩) (fun oq12 Sq12 hp13 q12 => ?_)
        rcases q12 with ⟨rfl, A12, ra12, rfl⟩
        show wJ _ _ _ _ _ _ _ _ _ _
        refine wa_fall ⟨_, rfl⟩ ?_
        refine wa_return rfl ?_
        show wJ _ _ _ _ _ _ _ _ _ _
        refine wa_fall ⟨_, rfl⟩ ?_
        refine wa_return rfl ?_
        exact ⟨rfl, Or.inr ⟨by omega, A12, ra12, rfl⟩⟩
      · skip
        refine wa_aload_n (n := 0) rfl ?_
        refine wa_bipush (w_rg2 (by omega) (by omega)) ?_
        refine wb_pfi 215 rfl (wy_pr rfl) wt_215 wf_8_16 (n := 16) rfl ⟨(by omega), (by omega)⟩ ?_
        refine wa_goto ⟨_, rfl⟩ ?_
        refine wa_return rfl ?_
        show wJ _ _ _ _ _ _ _ _ _ _
        refine wa_fall ⟨_, rfl⟩ ?_
        refine wa_return rfl ?_
        exact ⟨rfl, Or.inl ⟨by omega, rfl⟩⟩
    · skip
      refine wa_iconst ?_
      refine wa_goto ⟨_, rfl⟩ ?_
      refine wa_istore (n := 6) rfl ?_
      refine wa_iload (n := 6) rfl ?_
      refine wa_iconst ?_
      refine wa_icmpne (w_rg0 (by omega) (by omega)) (w_rg0 (by omega) (by omega)) ⟨_, rfl⟩ (fun c14 => ?_) (fun c14 => ?_)
      · skip
        exact absurd c14 (by omega)
      · skip
        refine wa_aload_n (n := 0) rfl ?_
        refine wa_bipush (w_rg2 (by omega) (by omega)) ?_
        refine wb_pfi 215 rfl (wy_pr rfl) wt_215 wf_8_16 (n := 16) rfl ⟨(by omega), (by omega)⟩ ?_
        refine wa_goto ⟨_, rfl⟩ ?_
        refine wa_return rfl ?_
        show wJ _ _ _ _ _ _ _ _ _ _
        refine wa_fall ⟨_, rfl⟩ ?_
        refine wa_return rfl ?_
        exact ⟨rfl, Or.inl ⟨by omega, rfl⟩⟩
theorem xb7n_162_215 {c p h ky : Int} (hP : xP 215 c p h S) (h72 : S 72 1 = 162) (hh1 : 1 ≤ h) (hky : S 217 (h - 1) = ky) (hk3 : ky ≠ 3) : wJ (pe_GA xs) wY0 (mS [217, 218]) (d + 11) t_XK_callBuiltin ((pe_at t_XK_callBuiltin.bl 0).getD (0, [])).2 [(0, (2, 215)), (1, (0, 7))] [] S (fun o Z => o = .inl none ∧ w_up S 215 16 12 = Z) := by
  obtain ⟨⟨hC, hI⟩, ⟨bc, bc0, bc1⟩, ⟨bp, bp0, bp1⟩, ⟨bh, bh0, bh1, bh2⟩, bl1, bl2, bl3⟩ := hP
  replace bp : S 220 (c - 1) = p := bp
  replace bh : S 216 2 = h := bh
  replace bh2 : h ≤ S 217 (-1) := bh2
  replace bl1 : S 218 (-1) = S 217 (-1) := bl1
  replace bl2 : 64 ≤ S 217 (-1) := bl2
  replace bl3 : S 217 (-1) ≤ 4095 := bl3
  refine wa_aload_n (n := 0) rfl ?_
  refine wb_gf4 215 rfl (wy_pr rfl) wt_215 wf_8_3 (v := 216) wl_215_3 ?_
  refine wb_gfi 216 rfl (wy_pr rfl) wt_216 wf_7_2 (v := h) (bh) (fun r1 => ?_)
  refine wa_iconst ?_
  refine wa_isub ?_
  refine wa_istore_n (n := 2) rfl ?_
  refine wa_aload_n (n := 0) rfl ?_
  refine wb_gf4 215 rfl (wy_pr rfl) wt_215 wf_8_3 (v := 216) wl_215_3 ?_
  refine wb_gf4 216 rfl (wy_pr rfl) wt_216 wf_7_0 (v := 217) wl_216_0 ?_
  refine wa_iload_n (n := 2) rfl ?_
  refine wb_bald 217 rfl (wy_pr rfl) wt_217 (n := (S 217 (-1))) (rfl) (by omega) (by omega) (v := ky) (hky) (fun r2 => ?_)
  refine wa_istore_n (n := 3) rfl ?_
  refine wa_aload_n (n := 0) rfl ?_
  refine wb_gf4 215 rfl (wy_pr rfl) wt_215 wf_8_3 (v := 216) wl_215_3 ?_
  refine wb_gf4 216 rfl (wy_pr rfl) wt_216 wf_7_1 (v := 218) wl_216_1 ?_
  refine wa_iload_n (n := 2) rfl ?_
  refine wb_lald 218 rfl (wy_pr rfl) wt_218 (n := (S 217 (-1))) (bl1) (by omega) (by omega) (v := (S 218 (h - 1))) rfl (fun r3 => ?_)
  refine wa_lstore (n := 4) rfl ?_
  refine wa_iload_n (n := 1) rfl ?_
  refine wb_sw (w_rg0 (by omega) (by omega)) (tb := 14) rfl ⟨_, rfl⟩ ?_
  refine wa_aload_n (n := 0) rfl ?_
  refine wa_iload_n (n := 3) rfl ?_
  refine wa_lload (n := 4) rfl ?_
  refine wa_cv 215 rfl (wy_pr rfl) wt_215 (M2 := mS [217, 218]) rfl at_XK_giveClass ⟨_, rfl⟩ rfl rfl ⟨trivial, trivial, trivial, (Or.inr ⟨wy_pr rfl, mS_no rfl⟩), trivial, trivial⟩ trivial (fun _ _ q => q) ?_ (fun _ _ _ q => q)
  refine wa_aload_n (n := 0) rfl ?_
  refine wb_gf4 215 rfl (wy_pr rfl) wt_215 wf_8_0 (v := 72) wl_215_0 ?_
  refine wb_gf5 72 rfl (wy_pr rfl) wt_72 wf_2_1 (v := 162) (h72) (fun r4 => ?_)
  refine wa_astore (n := 4) rfl ?_
  refine wa_iconst ?_
  refine wa_istore (n := 5) rfl ?_
  refine wa_iload_n (n := 1) rfl ?_
  refine wa_iconst ?_
  refine wa_icmpne (w_rg0 (by omega) (by omega)) (w_rg0 (by omega) (by omega)) ⟨_, rfl⟩ (fun c5 => ?_) (fun c5 => ?_)
  · skip
    refine wa_iload (n := 5) rfl ?_
    refine wa_iconst ?_
    refine wa_icmpne (w_rg0 (by omega) (by omega)) (w_rg0 (by omega) (by omega)) ⟨_, rfl⟩ (fun c6 => ?_) (fun c6 => ?_)
    · skip
      exact absurd c6 (by omega)
    · skip
      refine wa_iconst ?_
      refine wa_goto ⟨_, rfl⟩ ?_
      refine wa_istore (n := 6) rfl ?_
      refine wa_iload (n := 6) rfl ?_
      refine wa_iconst ?_
      refine wa_icmpne (w_rg0 (by omega) (by omega)) (w_rg0 (by omega) (by omega)) ⟨_, rfl⟩ (fun c7 => ?_) (fun c7 => ?_)
      · skip
        exact absurd c7 (by omega)
      · skip
        refine wa_aload_n (n := 0) rfl ?_
        refine wa_bipush (w_rg2 (by omega) (by omega)) ?_
        refine wb_pfi 215 rfl (wy_pr rfl) wt_215 wf_8_16 (n := 16) rfl ⟨(by omega), (by omega)⟩ ?_
        refine wa_goto ⟨_, rfl⟩ ?_
        refine wa_return rfl ?_
        show wJ _ _ _ _ _ _ _ _ _ _
        refine wa_fall ⟨_, rfl⟩ ?_
        refine wa_return rfl ?_
        exact ⟨rfl, rfl⟩
  · skip
    exfalso; omega
theorem zb7_162_215 (h : stC 215 S K) (hi : cIn S K 28 7 b9) (h72 : S 72 1 = 162) (hh1 : 1 ≤ K.1.length) (hn : S 162 2 = (cs.length : Int)) (hm : cs.length ≤ 60) (hk : (K.1.getD (K.1.length - 1) (0, 0, [])).1 = 3) (hp3 : cTt S) (hw : wd_at S 163 64) (hL : wd_L S 163 64) (hcw : cnW 181 163 T cs S) (hc7 : ∀ k : Int, 0 ≤ k → k < (cs.length : Int) → S 181 k < S 163 7) (h7m : S 163 7 ≤ 1000000) (hc : 0 ≤ (cIx T cs (K.1.getD (K.1.length - 1) (0, 0, [])).2.2)) : cSt xs d 215 S (kP K 1 (8, (cIx T cs (K.1.getD (K.1.length - 1) (0, 0, [])).2.2), [])) := by
  obtain ⟨h1, ⟨h2, h2b⟩, ⟨h3, h4, h5⟩, -⟩ := id h
  have hcy := c_at h1 (i := K.1.length - 1) (by omega) (j := (K.1.length : Int) - 1) (by omega)
  have ef : ∀ (j : Nat) (x : Int), j < 215 → (w_up S 215 16 0) j x = S j x := fun j x j0 => w_up_slot (by omega)
  obtain ⟨s, s1, s2, s3⟩ := cV_t hcy hk
  have p3 := hp3.2
  have eF : ∀ j : Nat, j < 215 → (w_up S 215 16 0) j = S j := fun j j0 => funext (fun x => ef j x j0)
  have hcal := xb7_162_215 (xs := xs) (d := d) (T := T) (cs := cs) (x := (K.1.getD (K.1.length - 1) (0, 0, [])).2.2) (a0 := s) (xP_of (Or.inl rfl) h) ((ef 72 1 (by first | decide | omega)).trans h72) ((ef 162 2 (by first | decide | omega)).trans hn) hm (by omega) ((w_up_slot (by first | decide | omega)).trans (cV_k hcy hk)) ((w_up_slot (by first | decide | omega)).trans s1) ⟨s2.1, by rw [ef 3 _ (by first | decide | omega)]; omega⟩ (by rw [ef 3 _ (by first | decide | omega)]; omega) (fun i hi2 => (ef 3 _ (by first | decide | omega)).trans (s3 i hi2)) (by unfold wd_at; rw [eF _ (by first | decide | omega), eF _ (by first | decide | omega), eF _ (by first | decide | omega), eF _ (by first | decide | omega), eF _ (by first | decide | omega), eF _ (by first | decide | omega)]; exact hw) (by unfold wd_L; rw [eF _ (by first | decide | omega), eF _ (by first | decide | omega), eF _ (by first | decide | omega), eF _ (by first | decide | omega), eF _ (by first | decide | omega), eF _ (by first | decide | omega), eF _ (by first | decide | omega)]; exact hL) (cnW_ag hcw (fun j x hj => ef j x (by omega))) (fun k k0 k1 => by rw [ef 181 _ (by first | decide | omega), ef 163 _ (by first | decide | omega)]; exact hc7 k k0 k1) (by rw [ef 163 _ (by first | decide | omega)]; exact h7m)
  exact cs_b_215 (m := 1) h hi.1 hi.2.1 hi.2.2 (by first | decide | omega) (fun q => by omega) (fun x hx => hx) (by unfold mS; decide) (wJ_mono hcal (fun o Z hz => ⟨hz.1, hz.2.elim (fun z => absurd z.1 (by omega)) (fun z => z.2)⟩)) rfl hh1 (cV_e (by first | decide | omega) rfl)
theorem zb7m_162_215 (h : stC 215 S K) (hi : cIn S K 28 7 b9) (h72 : S 72 1 = 162) (hh1 : 1 ≤ K.1.length) (hn : S 162 2 = (cs.length : Int)) (hm : cs.length ≤ 60) (hk : (K.1.getD (K.1.length - 1) (0, 0, [])).1 = 3) (hp3 : cTt S) (hw : wd_at S 163 64) (hL : wd_L S 163 64) (hcw : cnW 181 163 T cs S) (hc7 : ∀ k : Int, 0 ≤ k → k < (cs.length : Int) → S 181 k < S 163 7) (h7m : S 163 7 ≤ 1000000) (hc : (cIx T cs (K.1.getD (K.1.length - 1) (0, 0, [])).2.2) = -1) : cSt xs d 215 S (kTh K (2, 12, [])) := by
  obtain ⟨h1, ⟨h2, h2b⟩, ⟨h3, h4, h5⟩, -⟩ := id h
  have hcy := c_at h1 (i := K.1.length - 1) (by omega) (j := (K.1.length : Int) - 1) (by omega)
  have ef : ∀ (j : Nat) (x : Int), j < 215 → (w_up S 215 16 0) j x = S j x := fun j x j0 => w_up_slot (by omega)
  obtain ⟨s, s1, s2, s3⟩ := cV_t hcy hk
  have p3 := hp3.2
  have eF : ∀ j : Nat, j < 215 → (w_up S 215 16 0) j = S j := fun j j0 => funext (fun x => ef j x j0)
  have hcal := xb7_162_215 (xs := xs) (d := d) (T := T) (cs := cs) (x := (K.1.getD (K.1.length - 1) (0, 0, [])).2.2) (a0 := s) (xP_of (Or.inl rfl) h) ((ef 72 1 (by first | decide | omega)).trans h72) ((ef 162 2 (by first | decide | omega)).trans hn) hm (by omega) ((w_up_slot (by first | decide | omega)).trans (cV_k hcy hk)) ((w_up_slot (by first | decide | omega)).trans s1) ⟨s2.1, by rw [ef 3 _ (by first | decide | omega)]; omega⟩ (by rw [ef 3 _ (by first | decide | omega)]; omega) (fun i hi2 => (ef 3 _ (by first | decide | omega)).trans (s3 i hi2)) (by unfold wd_at; rw [eF _ (by first | decide | omega), eF _ (by first | decide | omega), eF _ (by first | decide | omega), eF _ (by first | decide | omega), eF _ (by first | decide | omega), eF _ (by first | decide | omega)]; exact hw) (by unfold wd_L; rw [eF _ (by first | decide | omega), eF _ (by first | decide | omega), eF _ (by first | decide | omega), eF _ (by first | decide | omega), eF _ (by first | decide | omega), eF _ (by first | decide | omega), eF _ (by first | decide | omega)]; exact hL) (cnW_ag hcw (fun j x hj => ef j x (by omega))) (fun k k0 k1 => by rw [ef 181 _ (by first | decide | omega), ef 163 _ (by first | decide | omega)]; exact hc7 k k0 k1) (by rw [ef 163 _ (by first | decide | omega)]; exact h7m)
  exact cx_b_215 h hi.1 hi.2.1 hi.2.2 (by first | decide | omega) (fun q => by omega) (fun x hx => hx) (by unfold mS; decide) (by first | decide | omega) (wJ_mono hcal (fun o Z hz => ⟨hz.1, hz.2.elim (fun z => z.2) (fun z => absurd z.1 (by omega))⟩))
theorem zb7e_162_215 (h : stC 215 S K) (hi : cIn S K 28 7 b9) (h72 : S 72 1 = 162) (hh1 : 1 ≤ K.1.length) (hk : (K.1.getD (K.1.length - 1) (0, 0, [])).1 ≠ 3) : cSt xs d 215 S (kTh K (2, 12, [])) := by
  obtain ⟨h1, -, -⟩ := id h
  have hcy := c_at h1 (i := K.1.length - 1) (by omega) (j := (K.1.length : Int) - 1) (by omega)
  exact cx_b_215 h hi.1 hi.2.1 hi.2.2 (by first | decide | omega) (fun q => by omega) (fun x hx => hx) (by unfold mS; decide) (by first | decide | omega) (xb7n_162_215 (xP_of (Or.inl rfl) h) ((w_up_slot (by first | decide | omega)).trans h72) (by omega) ((w_up_slot (by first | decide | omega)).trans hcy.1) hk)
theorem xb7_162_226 {c p h a0 : Int} (hP : xP 226 c p h S) (h72 : S 72 1 = 162) (hn : S 162 2 = (cs.length : Int)) (hm : cs.length ≤ 60) (hh1 : 1 ≤ h) (hky : S 228 (h - 1) = 3) (hvy : S 229 (h - 1) = a0 * 4294967296 + (x.length : Int)) (ha : 0 ≤ a0 ∧ a0 + (x.length : Int) ≤ S 3 (-1)) (h3 : S 3 (-1) ≤ 16777216) (hx : ∀ i : Nat, i < x.length → S 3 (a0 + (i : Int)) = x.getD i 0) (hw : wd_at S 163 64) (hL : wd_L S 163 64) (hcw : cnW 181 163 T cs S) (hc7 : ∀ k : Int, 0 ≤ k → k < (cs.length : Int) → S 181 k < S 163 7) (h7m : S 163 7 ≤ 1000000) : wJ (pe_GA xs) wY0 (mS [228, 229]) (d + 11) t_XK_callBuiltin ((pe_at t_XK_callBuiltin.bl 0).getD (0, [])).2 [(0, (2, 226)), (1, (0, 7))] [] S (fun o Z => o = .inl none ∧ ((cIx T cs x = -1 ∧ w_up S 226 16 12 = Z) ∨ (0 ≤ cIx T cs x ∧ sO 226 h c p 1 8 (cIx T cs x) S Z))) := by
  obtain ⟨⟨hC, hI⟩, ⟨bc, bc0, bc1⟩, ⟨bp, bp0, bp1⟩, ⟨bh, bh0, bh1, bh2⟩, bl1, bl2, bl3⟩ := hP
  replace bp : S 231 (c - 1) = p := bp
  replace bh : S 227 2 = h := bh
  replace bh2 : h ≤ S 228 (-1) := bh2
  replace bl1 : S 229 (-1) = S 228 (-1) := bl1
  replace bl2 : 64 ≤ S 228 (-1) := bl2
  replace bl3 : S 228 (-1) ≤ 4095 := bl3
  have hcr := ctA_rg (m := cs.length) (pr := fun k => decide (cNa T cs (k : Int) = x))
  replace hcr : cIx T cs x = -1 ∨ (0 ≤ cIx T cs x ∧ cIx T cs x < (cs.length : Int)) := hcr
  refine wa_aload_n (n := 0) rfl ?_
  refine wb_gf4 226 rfl (wy_pr rfl) wt_226 wf_8_3 (v := 227) wl_226_3 ?_
  refine wb_gfi 227 rfl (wy_pr rfl) wt_227 wf_7_2 (v := h) (bh) (fun r1 => ?_)
  refine wa_iconst ?_
  refine wa_isub ?_
  refine wa_istore_n (n := 2) rfl ?_
  refine wa_aload_n (n := 0) rfl ?_
  refine wb_gf4 226 rfl (wy_pr rfl) wt_226 wf_8_3 (v := 227) wl_226_3 ?_
  refine wb_gf4 227 rfl (wy_pr rfl) wt_227 wf_7_0 (v := 228) wl_227_0 ?_
  refine wa_iload_n (n := 2) rfl ?_
  refine wb_bald 228 rfl (wy_pr rfl) wt_228 (n := (S 228 (-1))) (rfl) (by omega) (by omega) (v := 3) (hky) (fun r2 => ?_)
  refine wa_istore_n (n := 3) rfl ?_
  refine wa_aload_n (n := 0) rfl ?_
  refine wb_gf4 226 rfl (wy_pr rfl) wt_226 wf_8_3 (v := 227) wl_226_3 ?_
  refine wb_gf4 227 rfl (wy_pr rfl) wt_227 wf_7_1 (v := 229) wl_227_1 ?_
  refine wa_iload_n (n := 2) rfl ?_
  refine wb_lald 229 rfl (wy_pr rfl) wt_229 (n := (S 228 (-1))) (bl1) (by omega) (by omega) (v := (a0 * 4294967296 + (x.length : Int))) (hvy) (fun r3 => ?_)
  refine wa_lstore (n := 4) rfl ?_
  refine wa_iload_n (n := 1) rfl ?_
  refine wb_sw (w_rg0 (by omega) (by omega)) (tb := 14) rfl ⟨_, rfl⟩ ?_
  refine wa_aload_n (n := 0) rfl ?_
  refine wa_iload_n (n := 3) rfl ?_
  refine wa_lload (n := 4) rfl ?_
  refine wa_cv 226 rfl (wy_pr rfl) wt_226 (M2 := mS [228, 229]) rfl at_XK_giveClass ⟨_, rfl⟩ rfl rfl ⟨trivial, trivial, trivial, (Or.inr ⟨wy_pr rfl, mS_no rfl⟩), trivial, trivial⟩ trivial (fun _ _ q => q) ?_ (fun _ _ _ q => q)
  refine wa_aload_n (n := 0) rfl ?_
  refine wb_gf4 226 rfl (wy_pr rfl) wt_226 wf_8_0 (v := 72) wl_226_0 ?_
  refine wb_gf5 72 rfl (wy_pr rfl) wt_72 wf_2_1 (v := 162) (h72) (fun r4 => ?_)
  refine wa_astore (n := 4) rfl ?_
  refine wa_iconst ?_
  refine wa_istore (n := 5) rfl ?_
  refine wa_iload_n (n := 1) rfl ?_
  refine wa_iconst ?_
  refine wa_icmpne (w_rg0 (by omega) (by omega)) (w_rg0 (by omega) (by omega)) ⟨_, rfl⟩ (fun c5 => ?_) (fun c5 => ?_)
  · skip
    exact absurd c5 (by omega)
  · skip
    refine wa_aload (n := 4) rfl ?_
    refine wb_gf4 162 rfl (wy_pr rfl) wt_162 wf_3_0 (v := 163) wl_162_0 ?_
    refine wa_aload_n (n := 0) rfl ?_
    refine wb_gf4 226 rfl (wy_pr rfl) wt_226 wf_8_0 (v := 72) wl_226_0 ?_
    refine wb_gf4 72 rfl (wy_pr rfl) wt_72 wf_2_0 (v := 2) wl_72_0 ?_
    refine wb_gf4 2 rfl (wy_pr rfl) wt_2 wf_9_0 (v := 3) wl_2_0 ?_
    refine wa_lload_n (n := 2) rfl ?_
    refine wa_cs (M2 := mS [228, 229]) rfl at_X_sliceStart ⟨_, rfl⟩ rfl rfl ⟨trivial, (Or.inr ⟨wy_pr rfl, mS_no rfl⟩), (Or.inr ⟨wy_pr rfl, mS_no rfl⟩), trivial, trivial, trivial⟩ ⟨(Or.inr ⟨wy_pr rfl, mS_no rfl⟩), (Or.inr ⟨wy_pr rfl, mS_no rfl⟩), trivial⟩ (fun _ _ q => q) ?_ (fun _ _ _ q => q)
    refine wa_lload_n (n := 0) rfl ?_
    refine wa_bipush (w_rg2 (by omega) (by omega)) ?_
    refine wa_lushr ?_
    refine wb_l2i_r (y := a0) (sl_s ⟨by omega, by omega⟩ ⟨by omega, by omega⟩) ?_
    refine wa_ireturn rfl ?_
    show wJ _ _ _ _ _ _ _ _ _ _
    refine wa_lload_n (n := 2) rfl ?_
    refine wa_cs (M2 := mS [228, 229]) rfl at_X_sliceSize ⟨_, rfl⟩ rfl rfl ⟨trivial, (Or.inr ⟨wy_pr rfl, mS_no rfl⟩), (Or.inr ⟨wy_pr rfl, mS_no rfl⟩), trivial, trivial, trivial⟩ ⟨trivial, (Or.inr ⟨wy_pr rfl, mS_no rfl⟩), (Or.inr ⟨wy_pr rfl, mS_no rfl⟩), trivial⟩ (fun _ _ q => q) ?_ (fun _ _ _ q => q)
    refine wa_lload_n (n := 0) rfl ?_
    refine wb_l2i_r (y := (x.length : Int)) (sl_z ⟨by omega, by omega⟩ ⟨by omega, by omega⟩) ?_
    refine wa_ireturn rfl ?_
    show wJ _ _ _ _ _ _ _ _ _ _
    refine wa_cv 163 rfl (wy_pr rfl) wt_163 (M2 := mS []) rfl at_XW_wordAt ⟨_, rfl⟩ rfl rfl ⟨trivial, (Or.inr ⟨wy_pr rfl, mS_no rfl⟩), (Or.inr ⟨wy_pr rfl, mS_no rfl⟩), trivial, trivial, trivial⟩ trivial (fun _ _ q => mS_sub (by decide) q) (wa_163 (S := S) (b := 3) (a0 := a0) (n := (x.length : Int)) (wy_pr rfl) wt_3 ⟨by omega, by omega, by omega, by omega⟩ hw hL) (fun oq6 Sq6 hp7 q6 => ?_)
    rcases q6 with ⟨rfl, wd, rfl, hwd⟩
    show wJ _ _ _ _ _ _ _ _ _ _
    have hwr : -1 ≤ wd ∧ wd ≤ 1000000 := by rcases hwd with ⟨z1, z2, -⟩ | ⟨z1, -⟩ <;> omega
    have hci := ctw_162 (T := T) hw hcw hc7 hx hwd
    have hno : wd = -1 → cIx T cs x = -1 := fun z => by rw [← hci]; refine ctA_0 (fun i hi => decide_eq_false ?_); have z1 := (hcw.2 (i : Int) (by omega) (by omega)).1.1; rw [z]; omega
    refine wa_istore (n := 5) rfl ?_
    refine wa_fall ⟨_, rfl⟩ ?_
    refine wa_iload (n := 5) rfl ?_
    refine wa_iconst ?_
    refine wa_icmpne (w_rg0 (by omega) (by omega)) (w_rg0 (by omega) (by omega)) ⟨_, rfl⟩ (fun c8 => ?_) (fun c8 => ?_)
    · skip
      refine wa_aload (n := 4) rfl ?_
      refine wa_iload (n := 5) rfl ?_
      refine wa_cv 162 rfl (wy_pr rfl) wt_162 (M2 := mS []) rfl at_XO_classTyped ⟨_, rfl⟩ rfl rfl ⟨trivial, (Or.inr ⟨wy_pr rfl, mS_no rfl⟩), (Or.inr ⟨wy_pr rfl, mS_no rfl⟩), trivial, trivial, trivial⟩ trivial (fun _ _ q => mS_sub (by decide) q) (wJ_mono (ctk_162 (S := S) (v := wd) hC hn hm ⟨by omega, by omega⟩) (fun o Z hz => (⟨hz.1, by rw [← hci]; exact hz.2⟩ : S = Z ∧ o = .inl (some (0, cIx T cs x))))) (fun oq9 Sq9 hp10 q9 => ?_)
      rcases q9 with ⟨rfl, rfl⟩
      show wJ _ _ _ _ _ _ _ _ _ _
      refine wa_fall ⟨_, rfl⟩ ?_
      refine wa_istore (n := 6) rfl ?_
      refine wa_iload (n := 6) rfl ?_
      refine wa_iconst ?_
      refine wa_icmpne (w_rg0 (by omega) (by omega)) (w_rg0 (by omega) (by omega)) ⟨_, rfl⟩ (fun c11 => ?_) (fun c11 => ?_)
      · skip
        refine wa_aload_n (n := 0) rfl ?_
        refine wa_iconst ?_
        refine wa_bipush (w_rg2 (by omega) (by omega)) ?_
        refine wa_iload (n := 6) rfl ?_
        refine wa_i2l (w_rg0 (by omega) (by omega)) ?_
        refine wa_cv 226 rfl (wy_pr rfl) wt_226 (M2 := mS [228, 229]) rfl at_XK_give ⟨_, rfl⟩ rfl rfl ⟨trivial, trivial, (Or.inr ⟨wy_pr rfl, mS_no rfl⟩), (Or.inr ⟨wy_pr rfl, mS_no rfl⟩), trivial, trivial, trivial⟩ trivial (fun _ _ q => q) (gw_226 (S := S) (n := 1) (k := 8) (v := (cIx T cs x)) (h := h) (c := c) (p := p) (ln := (S 228 (-1))) hC hI ⟨by omega, by omega⟩ ⟨by omega, by omega⟩ (bh) (bc) (bp) (rfl) (bl1) ⟨by omega, by omega⟩ ⟨by omega, by omega, by omega⟩ ⟨by omega, by omega⟩ ⟨by omega, by omega⟩) (fun oq12 Sq12 hp13 q12 => ?_)
        rcases q12 with ⟨rfl, A12, ra12, rfl⟩
        show wJ _ _ _ _ _ _ _ _ _ _
        refine wa_fall ⟨_, rfl⟩ ?_
        refine wa_return rfl ?_
        show wJ _ _ _ _ _ _ _ _ _ _
        refine wa_fall ⟨_, rfl⟩ ?_
        refine wa_return rfl ?_
        exact ⟨rfl, Or.inr ⟨by omega, A12, ra12, rfl⟩⟩
      · skip
        refine wa_aload_n (n := 0) rfl ?_
        refine wa_bipush (w_rg2 (by omega) (by omega)) ?_
        refine wb_pfi 226 rfl (wy_pr rfl) wt_226 wf_8_16 (n := 16) rfl ⟨(by omega), (by omega)⟩ ?_
        refine wa_goto ⟨_, rfl⟩ ?_
        refine wa_return rfl ?_
        show wJ _ _ _ _ _ _ _ _ _ _
        refine wa_fall ⟨_, rfl⟩ ?_
        refine wa_return rfl ?_
        exact ⟨rfl, Or.inl ⟨by omega, rfl⟩⟩
    · skip
      refine wa_iconst ?_
      refine wa_goto ⟨_, rfl⟩ ?_
      refine wa_istore (n := 6) rfl ?_
      refine wa_iload (n := 6) rfl ?_
      refine wa_iconst ?_
      refine wa_icmpne (w_rg0 (by omega) (by omega)) (w_rg0 (by omega) (by omega)) ⟨_, rfl⟩ (fun c14 => ?_) (fun c14 => ?_)
      · skip
        exact absurd c14 (by omega)
      · skip
        refine wa_aload_n (n := 0) rfl ?_
        refine wa_bipush (w_rg2 (by omega) (by omega)) ?_
        refine wb_pfi 226 rfl (wy_pr rfl) wt_226 wf_8_16 (n := 16) rfl ⟨(by omega), (by omega)⟩ ?_
        refine wa_goto ⟨_, rfl⟩ ?_
        refine wa_return rfl ?_
        show wJ _ _ _ _ _ _ _ _ _ _
        refine wa_fall ⟨_, rfl⟩ ?_
        refine wa_return rfl ?_
        exact ⟨rfl, Or.inl ⟨by omega, rfl⟩⟩
theorem xb7n_162_226 {c p h ky : Int} (hP : xP 226 c p h S) (h72 : S 72 1 = 162) (hh1 : 1 ≤ h) (hky : S 228 (h - 1) = ky) (hk3 : ky ≠ 3) : wJ (pe_GA xs) wY0 (mS [228, 229]) (d + 11) t_XK_callBuiltin ((pe_at t_XK_callBuiltin.bl 0).getD (0, [])).2 [(0, (2, 226)), (1, (0, 7))] [] S (fun o Z => o = .inl none ∧ w_up S 226 16 12 = Z) := by
  obtain ⟨⟨hC, hI⟩, ⟨bc, bc0, bc1⟩, ⟨bp, bp0, bp1⟩, ⟨bh, bh0, bh1, bh2⟩, bl1, bl2, bl3⟩ := hP
  replace bp : S 231 (c - 1) = p := bp
  replace bh : S 227 2 = h := bh
  replace bh2 : h ≤ S 228 (-1) := bh2
  replace bl1 : S 229 (-1) = S 228 (-1) := bl1
  replace bl2 : 64 ≤ S 228 (-1) := bl2
  replace bl3 : S 228 (-1) ≤ 4095 := bl3
  refine wa_aload_n (n := 0) rfl ?_
  refine wb_gf4 226 rfl (wy_pr rfl) wt_226 wf_8_3 (v := 227) wl_226_3 ?_
  refine wb_gfi 227 rfl (wy_pr rfl) wt_227 wf_7_2 (v := h) (bh) (fun r1 => ?_)
  refine wa_iconst ?_
  refine wa_isub ?_
  refine wa_istore_n (n := 2) rfl ?_
  refine wa_aload_n (n := 0) rfl ?_
  refine wb_gf4 226 rfl (wy_pr rfl) wt_226 wf_8_3 (v := 227) wl_226_3 ?_
  refine wb_gf4 227 rfl (wy_pr rfl) wt_227 wf_7_0 (v := 228) wl_227_0 ?_
  refine wa_iload_n (n := 2) rfl ?_
  refine wb_bald 228 rfl (wy_pr rfl) wt_228 (n := (S 228 (-1))) (rfl) (by omega) (by omega) (v := ky) (hky) (fun r2 => ?_)
  refine wa_istore_n (n := 3) rfl ?_
  refine wa_aload_n (n := 0) rfl ?_
  refine wb_gf4 226 rfl (wy_pr rfl) wt_226 wf_8_3 (v := 227) wl_226_3 ?_
  refine wb_gf4 227 rfl (wy_pr rfl) wt_227 wf_7_1 (v := 229) wl_227_1 ?_
  refine wa_iload_n (n := 2) rfl ?_
  refine wb_lald 229 rfl (wy_pr rfl) wt_229 (n := (S 228 (-1))) (bl1) (by omega) (by omega) (v := (S 229 (h - 1))) rfl (fun r3 => ?_)
  refine wa_lstore (n := 4) rfl ?_
  refine wa_iload_n (n := 1) rfl ?_
  refine wb_sw (w_rg0 (by omega) (by omega)) (tb := 14) rfl ⟨_, rfl⟩ ?_
  refine wa_aload_n (n := 0) rfl ?_
  refine wa_iload_n (n := 3) rfl ?_
  refine wa_lload (n := 4) rfl ?_
  refine wa_cv 226 rfl (wy_pr rfl) wt_226 (M2 := mS [228, 229]) rfl at_XK_giveClass ⟨_, rfl⟩ rfl rfl ⟨trivial, trivial, trivial, (Or.inr ⟨wy_pr rfl, mS_no rfl⟩), trivial, trivial⟩ trivial (fun _ _ q => q) ?_ (fun _ _ _ q => q)
  refine wa_aload_n (n := 0) rfl ?_
  refine wb_gf4 226 rfl (wy_pr rfl) wt_226 wf_8_0 (v := 72) wl_226_0 ?_
  refine wb_gf5 72 rfl (wy_pr rfl) wt_72 wf_2_1 (v := 162) (h72) (fun r4 => ?_)
  refine wa_astore (n := 4) rfl ?_
  refine wa_iconst ?_
  refine wa_istore (n := 5) rfl ?_
  refine wa_iload_n (n := 1) rfl ?_
  refine wa_iconst ?_
  refine wa_icmpne (w_rg0 (by omega) (by omega)) (w_rg0 (by omega) (by omega)) ⟨_, rfl⟩ (fun c5 => ?_) (fun c5 => ?_)
  · skip
    refine wa_iload (n := 5) rfl ?_
    refine wa_iconst ?_
    refine wa_icmpne (w_rg0 (by omega) (by omega)) (w_rg0 (by omega) (by omega)) ⟨_, rfl⟩ (fun c6 => ?_) (fun c6 => ?_)
    · skip
      exact absurd c6 (by omega)
    · skip
      refine wa_iconst ?_
      refine wa_goto ⟨_, rfl⟩ ?_
      refine wa_istore (n := 6) rfl ?_
      refine wa_iload (n := 6) rfl ?_
      refine wa_iconst ?_
      refine wa_icmpne (w_rg0 (by omega) (by omega)) (w_rg0 (by omega) (by omega)) ⟨_, rfl⟩ (fun c7 => ?_) (fun c7 => ?_)
      · skip
        exact absurd c7 (by omega)
      · skip
        refine wa_aload_n (n := 0) rfl ?_
        refine wa_bipush (w_rg2 (by omega) (by omega)) ?_
        refine wb_pfi 226 rfl (wy_pr rfl) wt_226 wf_8_16 (n := 16) rfl ⟨(by omega), (by omega)⟩ ?_
        refine wa_goto ⟨_, rfl⟩ ?_
        refine wa_return rfl ?_
        show wJ _ _ _ _ _ _ _ _ _ _
        refine wa_fall ⟨_, rfl⟩ ?_
        refine wa_return rfl ?_
        exact ⟨rfl, rfl⟩
  · skip
    exfalso; omega
theorem zb7_162_226 (h : stC 226 S K) (hi : cIn S K 28 7 b9) (h72 : S 72 1 = 162) (hh1 : 1 ≤ K.1.length) (hn : S 162 2 = (cs.length : Int)) (hm : cs.length ≤ 60) (hk : (K.1.getD (K.1.length - 1) (0, 0, [])).1 = 3) (hp3 : cTt S) (hw : wd_at S 163 64) (hL : wd_L S 163 64) (hcw : cnW 181 163 T cs S) (hc7 : ∀ k : Int, 0 ≤ k → k < (cs.length : Int) → S 181 k < S 163 7) (h7m : S 163 7 ≤ 1000000) (hc : 0 ≤ (cIx T cs (K.1.getD (K.1.length - 1) (0, 0, [])).2.2)) : cSt xs d 226 S (kP K 1 (8, (cIx T cs (K.1.getD (K.1.length - 1) (0, 0, [])).2.2), [])) := by
  obtain ⟨h1, ⟨h2, h2b⟩, ⟨h3, h4, h5⟩, -⟩ := id h
  have hcy := c_at h1 (i := K.1.length - 1) (by omega) (j := (K.1.length : Int) - 1) (by omega)
  have ef : ∀ (j : Nat) (x : Int), j < 215 → (w_up S 226 16 0) j x = S j x := fun j x j0 => w_up_slot (by omega)
  obtain ⟨s, s1, s2, s3⟩ := cV_t hcy hk
  have p3 := hp3.2
  have eF : ∀ j : Nat, j < 215 → (w_up S 226 16 0) j = S j := fun j j0 => funext (fun x => ef j x j0)
  have hcal := xb7_162_226 (xs := xs) (d := d) (T := T) (cs := cs) (x := (K.1.getD (K.1.length - 1) (0, 0, [])).2.2) (a0 := s) (xP_of (Or.inr rfl) h) ((ef 72 1 (by first | decide | omega)).trans h72) ((ef 162 2 (by first | decide | omega)).trans hn) hm (by omega) ((w_up_slot (by first | decide | omega)).trans (cV_k hcy hk)) ((w_up_slot (by first | decide | omega)).trans s1) ⟨s2.1, by rw [ef 3 _ (by first | decide | omega)]; omega⟩ (by rw [ef 3 _ (by first | decide | omega)]; omega) (fun i hi2 => (ef 3 _ (by first | decide | omega)).trans (s3 i hi2)) (by unfold wd_at; rw [eF _ (by first | decide | omega), eF _ (by first | decide | omega), eF _ (by first | decide | omega), eF _ (by first | decide | omega), eF _ (by first | decide | omega), eF _ (by first | decide | omega)]; exact hw) (by unfold wd_L; rw [eF _ (by first | decide | omega), eF _ (by first | decide | omega), eF _ (by first | decide | omega), eF _ (by first | decide | omega), eF _ (by first | decide | omega), eF _ (by first | decide | omega), eF _ (by first | decide | omega)]; exact hL) (cnW_ag hcw (fun j x hj => ef j x (by omega))) (fun k k0 k1 => by rw [ef 181 _ (by first | decide | omega), ef 163 _ (by first | decide | omega)]; exact hc7 k k0 k1) (by rw [ef 163 _ (by first | decide | omega)]; exact h7m)
  exact cs_b_226 (m := 1) h hi.1 hi.2.1 hi.2.2 (by first | decide | omega) (fun q => by omega) (fun x hx => hx) (by unfold mS; decide) (wJ_mono hcal (fun o Z hz => ⟨hz.1, hz.2.elim (fun z => absurd z.1 (by omega)) (fun z => z.2)⟩)) rfl hh1 (cV_e (by first | decide | omega) rfl)
theorem zb7m_162_226 (h : stC 226 S K) (hi : cIn S K 28 7 b9) (h72 : S 72 1 = 162) (hh1 : 1 ≤ K.1.length) (hn : S 162 2 = (cs.length : Int)) (hm : cs.length ≤ 60) (hk : (K.1.getD (K.1.length - 1) (0, 0, [])).1 = 3) (hp3 : cTt S) (hw : wd_at S 163 64) (hL : wd_L S 163 64) (hcw : cnW 181 163 T cs S) (hc7 : ∀ k : Int, 0 ≤ k → k < (cs.length : Int) → S 181 k < S 163 7) (h7m : S 163 7 ≤ 1000000) (hc : (cIx T cs (K.1.getD (K.1.length - 1) (0, 0, [])).2.2) = -1) : cSt xs d 226 S (kTh K (2, 12, [])) := by
  obtain ⟨h1, ⟨h2, h2b⟩, ⟨h3, h4, h5⟩, -⟩ := id h
  have hcy := c_at h1 (i := K.1.length - 1) (by omega) (j := (K.1.length : Int) - 1) (by omega)
  have ef : ∀ (j : Nat) (x : Int), j < 215 → (w_up S 226 16 0) j x = S j x := fun j x j0 => w_up_slot (by omega)
  obtain ⟨s, s1, s2, s3⟩ := cV_t hcy hk
  have p3 := hp3.2
  have eF : ∀ j : Nat, j < 215 → (w_up S 226 16 0) j = S j := fun j j0 => funext (fun x => ef j x j0)
  have hcal := xb7_162_226 (xs := xs) (d := d) (T := T) (cs := cs) (x := (K.1.getD (K.1.length - 1) (0, 0, [])).2.2) (a0 := s) (xP_of (Or.inr rfl) h) ((ef 72 1 (by first | decide | omega)).trans h72) ((ef 162 2 (by first | decide | omega)).trans hn) hm (by omega) ((w_up_slot (by first | decide | omega)).trans (cV_k hcy hk)) ((w_up_slot (by first | decide | omega)).trans s1) ⟨s2.1, by rw [ef 3 _ (by first | decide | omega)]; omega⟩ (by rw [ef 3 _ (by first | decide | omega)]; omega) (fun i hi2 => (ef 3 _ (by first | decide | omega)).trans (s3 i hi2)) (by unfold wd_at; rw [eF _ (by first | decide | omega), eF _ (by first | decide | omega), eF _ (by first | decide | omega), eF _ (by first | decide | omega), eF _ (by first | decide | omega), eF _ (by first | decide | omega)]; exact hw) (by unfold wd_L; rw [eF _ (by first | decide | omega), eF _ (by first | decide | omega), eF _ (by first | decide | omega), eF _ (by first | decide | omega), eF _ (by first | decide | omega), eF _ (by first | decide | omega), eF _ (by first | decide | omega)]; exact hL) (cnW_ag hcw (fun j x hj => ef j x (by omega))) (fun k k0 k1 => by rw [ef 181 _ (by first | decide | omega), ef 163 _ (by first | decide | omega)]; exact hc7 k k0 k1) (by rw [ef 163 _ (by first | decide | omega)]; exact h7m)
  exact cx_b_226 h hi.1 hi.2.1 hi.2.2 (by first | decide | omega) (fun q => by omega) (fun x hx => hx) (by unfold mS; decide) (by first | decide | omega) (wJ_mono hcal (fun o Z hz => ⟨hz.1, hz.2.elim (fun z => z.2) (fun z => absurd z.1 (by omega))⟩))
theorem zb7e_162_226 (h : stC 226 S K) (hi : cIn S K 28 7 b9) (h72 : S 72 1 = 162) (hh1 : 1 ≤ K.1.length) (hk : (K.1.getD (K.1.length - 1) (0, 0, [])).1 ≠ 3) : cSt xs d 226 S (kTh K (2, 12, [])) := by
  obtain ⟨h1, -, -⟩ := id h
  have hcy := c_at h1 (i := K.1.length - 1) (by omega) (j := (K.1.length : Int) - 1) (by omega)
  exact cx_b_226 h hi.1 hi.2.1 hi.2.2 (by first | decide | omega) (fun q => by omega) (fun x hx => hx) (by unfold mS; decide) (by first | decide | omega) (xb7n_162_226 (xP_of (Or.inr rfl) h) ((w_up_slot (by first | decide | omega)).trans h72) (by omega) ((w_up_slot (by first | decide | omega)).trans hcy.1) hk)
end Wid
