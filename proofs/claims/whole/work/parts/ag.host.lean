/-! PART ag: LinkedTongue.host(). -/
section Wag
variable {xs : List (Nat × List Int32)} {M : Nat → Prop} {d c : Nat} {A B C S Z : wS} {Q : wO → wS → Prop} {T : Int → Int} {n : Int}
theorem wb_aald14 {G : pe_G} {Y : wY} {mt : pe_Mt} {rest : List pe_I} {L : wL} {st : List wv} {x i v n : Int} (j : Nat) (hx : x = j) (hp : w_pr Y S j) (ht : Y.ty j = 14) (h0 : 0 ≤ i) (hn : S j (-1) = n) (h1 : i < n) (hv : S j i = v) (k : wJ G Y M d mt rest L ((2, v) :: st) S Q) : wJ G Y M d mt (.inl .aaload :: rest) L ((0, i) :: (2, x) :: st) S Q := by
  subst hv
  exact wa_aald j hx hp ht ⟨rfl, rfl, by decide⟩ h0 (by omega) (if_neg (by decide)) (fun _ => k)
/-- the class at rest, whichever host it has -/
def cW (S : wS) : Prop := w_CL S ∧ gI S ∧ w2_I S ∧ hi_I 74 117 118 S ∧ hi_I 163 206 207 S ∧ hs_R S ∧ (S 161 (-1) = 2 ∧ S 161 0 = 215 ∧ S 161 1 = 226) ∧ (0 ≤ S 0 1 ∧ S 0 1 ≤ 65536 ∧ S 0 1 ≤ S 1 (-1) ∧ (256 ≤ S 1 (-1) ∧ S 1 (-1) ≤ 131072)) ∧ (∀ i : Int, 0 ≤ i → i < S 0 1 → S 1 i = 10 ∨ (32 ≤ S 1 i ∧ S 1 i ≤ 126)) ∧ 16 ≤ S 48 (-1) ∧ (64 ≤ S 144 (-1) ∧ 64 ≤ S 145 (-1) ∧ 64 ≤ S 146 (-1) ∧ 64 ≤ S 147 (-1) ∧ 64 ≤ S 148 (-1))
/-- the class's host is p, the other one q -/
def cH (p q : Nat) (S : wS) : Prop := S 72 1 = p ∧ S 0 10 = q ∧ 0 ≤ S 150 5 ∧ 0 ≤ S p 16 ∧ S 150 5 + S p 16 ≤ 2000 ∧ S p 17 = 2000 - S 150 5
/-- room behind a fault: one exception -/
def xr_G (S Z : wS) : Prop := ∃ Z1 : wS, rmR S Z1 ∧ (∀ k : Nat, k < 388 → Z k (-1) = Z1 k (-1)) ∧ Z wG 0 = Z1 wG 0 + 6 ∧ Z wG 1 = Z1 wG 1 + 1
/-- all is cleared, one thing after the other -/
def cl_ch (p q : Nat) (S Z : wS) : Prop := ∃ Z2 Z3 Z4 Z5 : wS, w2_I Z2 ∧ wc_ag (w_up (w_up S 0 1 0) 0 10 p) Z2 ∧ cc_ag Z2 Z3 ∧ hc_ag p q Z3 Z4 ∧ lc_ag Z4 Z5 ∧ Z = (w_up (w_up (w_up (w_up (w_up (w_up (w_up (w_up Z5 215 13 0) 215 4 0) 216 2 0) 215 12 0) 226 13 0) 226 4 0) 227 2 0) 226 12 0)
theorem w2_ag (h : w2_I S) (e : ∀ x : Nat, x ≤ 10 → Z (2 + x) = S (2 + x)) : w2_I Z := by
  unfold w2_I wd_at wd_L wv_L at h ⊢
  rw [show Z (2 + 1) = S (2 + 1) from e 1 (by decide), show Z (2 + 2) = S (2 + 2) from e 2 (by decide), show Z (2 + 3) = S (2 + 3) from e 3 (by decide), show Z (2 + 4) = S (2 + 4) from e 4 (by decide), show Z (2 + 5) = S (2 + 5) from e 5 (by decide), show Z (2 + 6) = S (2 + 6) from e 6 (by decide), show Z (2 + 7) = S (2 + 7) from e 7 (by decide), show Z (2 + 8) = S (2 + 8) from e 8 (by decide), show Z (2 + 10) = S (2 + 10) from e 10 (by decide), show Z 11 = S 11 from e 9 (by decide), show Z 2 = S 2 from e 0 (by decide)]
  exact h
theorem hi_ag {w a b2 : Nat} (h : hi_I w a b2 S) (e : ∀ x : Nat, x ≤ 10 → Z (w + x) = S (w + x)) (ha : Z a (-1) = S a (-1)) (hb : Z b2 (-1) = S b2 (-1)) : hi_I w a b2 Z := by
  obtain ⟨p2, p3, p4, p5, p6⟩ := h
  refine ⟨hw_ag p2 e, ?_, ?_, ?_, ?_⟩
  · unfold rw_I; rw [e 1 (by decide), e 2 (by decide), e 3 (by decide)]; exact p3
  · rw [ha, hb]; exact p4
  · rw [e 2 (by decide)]; exact p5
  · rw [e 1 (by decide)]; exact p6
theorem xr_73 {JE : List hCR → List hMR → (Int → List Int) → wS → Prop} (hE : ∀ c : Nat, JE_73 A T n c JE) (hX : w_X xs) (hA : zT A T n) (hW : cW S) (hn : S 0 1 = n) (h76 : n ≤ 8176) (hT : ∀ i : Int, 0 ≤ i → i < n → S 1 i = T i) : wJ (pe_GA xs) wY0 (mS [15, 16, 17, 75, 76, 77, 78, 79, 80, 117, 118]) (d + 13) t_XT_read ((pe_at t_XT_read.bl 0).getD (0, [])).2 [(0, (2, 61)), (1, (2, 1)), (2, (0, n)), (3, (2, 73))] [] S (fun o Z => (∃ (c : Nat) (cs : List hCR) (ms : List hMR) (os : Int → List Int), o = .inl (some (0, 0)) ∧ ho_f_241 A 61 [] [] (tp T n 1 0) = .inr (cs, ms) ∧ JT_73 A T n c cs ms os Z ∧ hs_P 73 74 117 118 125 S Z ∧ rmR S Z ∧ JE cs ms os Z) ∨ (∃ e x : Int, o = .inl (some (0, e + 16 * x)) ∧ ho_f_241 A 61 [] [] (tp T n 1 0) = .inl (e, x) ∧ (0 < e + 16 * x ∧ e + 16 * x ≤ 2000000) ∧ hs_P 73 74 117 118 125 S Z ∧ xr_G S Z)) := by
  obtain ⟨k1, k2, k3, k4, k5, k6, k7, k8, k9, k10, k11⟩ := hW
  have hi := k4
  rw [hn] at k8 k9
  refine wJ_mono (hrd_73 hE hX (as_74_ok (wx_49 hX)) hA k2 k1 hi.1 hi.2.1 hi.2.2.1 ⟨k8.1, k8.2.1, k8.2.2.1, by omega⟩ hT (fun i i0 i1 => by rw [← hT i i0 i1]; exact k9 i i0 i1) ⟨k6.1, k6.2.1, k6.2.2.1, by have := k6.2.2.2; omega⟩ ⟨Int.le_trans hi.2.2.2.1 (by decide), Int.le_trans hi.2.2.2.2 (by decide)⟩) (fun o Z hz => ?_)
  rcases hz with ⟨Zc, Zr, c, g1, g2, ⟨cs, ms, os, g3, g4, g5, g6, g9⟩ | ⟨e, x, v, cs, ms, os, S2, Z0, g3, g4, ⟨g5, g6⟩, g7, g8⟩⟩
  · obtain ⟨q1, q2⟩ := hs_ok_73 g1 k1 ⟨k8.1, h76⟩ k6 hi g2 g5 g6
    exact Or.inl ⟨c, cs, ms, os, g3, g4, g5, q1, q2, g9⟩
  · obtain ⟨q1, Z1, q2, q3, q4, q5, q6⟩ := hs_no_73 g1 k1 ⟨k8.1, h76⟩ k6 hi g2 g5 g6 g7 g8
    exact Or.inr ⟨e, x, g3, g4, q6, q1, Z1, q2, q3, q4, q5⟩
theorem xh_73 {JE : List hCR → List hMR → (Int → List Int) → wS → Prop} (hE : ∀ c : Nat, JE_73 A T n c JE) (hX : w_X xs) (hx1 : pe_at (pe_GA xs).xs 1 = some (1, tx_1)) (hA : zT A T n) (hW : cW S) (hH : cH 162 73 S) (hn : S 0 1 = n) (h76 : n ≤ 8176) (hT : ∀ i : Int, 0 ≤ i → i < n → S 1 i = T i) : wJ (pe_GA xs) wY0 (mS [15, 16, 17, 75, 76, 77, 78, 79, 80, 117, 118]) (d + 14) t_X_host ((pe_at t_X_host.bl 0).getD (0, [])).2 [(0, (2, 0))] [] S (fun o Z => (∃ (c : Nat) (cs : List hCR) (ms : List hMR) (os : Int → List Int) (Zr : wS), o = .inl (some (0, 0)) ∧ ho_f_241 A 61 [] [] (tp T n 1 0) = .inr (cs, ms) ∧ JT_73 A T n c cs ms os Zr ∧ hs_P 73 74 117 118 125 S Zr ∧ rmR S Zr ∧ JE cs ms os Zr ∧ cl_ch 162 73 Zr Z) ∨ (∃ (e x : Int) (Zr : wS), o = .inl (some (0, e + 16 * x)) ∧ ho_f_241 A 61 [] [] (tp T n 1 0) = .inl (e, x) ∧ (0 < e + 16 * x ∧ e + 16 * x ≤ 2000000) ∧ hs_P 73 74 117 118 125 S Zr ∧ xr_G S Zr ∧ Z = w_up Zr 0 1 0)) := by
  have hW0 := hW
  obtain ⟨k1, k2, k3, k4, k5, k6, ⟨k7, k7a, k7b⟩, k8, k9, k10, k11⟩ := hW
  obtain ⟨u1, u2, u3, u4, u5, u6⟩ := hH
  rw [hn] at k8
  refine wa_aload_n (n := 0) rfl ?_
  refine wb_gf5 0 rfl (wy_pr rfl) wt_0 wf_10_10 (v := 73) (u2) (fun r1 => ?_)
  refine wa_astore_n (n := 1) rfl ?_
  refine wa_aload_n (n := 0) rfl ?_
  refine wb_gf4 0 rfl (wy_pr rfl) wt_0 wf_10_5 (v := 61) wl_0_5 ?_
  refine wa_aload_n (n := 0) rfl ?_
  refine wb_gf4 0 rfl (wy_pr rfl) wt_0 wf_10_0 (v := 1) wl_0_0 ?_
  refine wa_aload_n (n := 0) rfl ?_
  refine wb_gfi 0 rfl (wy_pr rfl) wt_0 wf_10_1 (v := n) (hn) (fun r2 => ?_)
  refine wa_aload_n (n := 1) rfl ?_
  refine wa_cv 61 rfl (wy_pr rfl) wt_61 (M2 := mS [15, 16, 17, 75, 76, 77, 78, 79, 80, 117, 118]) rfl at_XT_read ⟨_, rfl⟩ rfl rfl ⟨(Or.inr ⟨wy_pr rfl, mS_no rfl⟩), (Or.inr ⟨wy_pr rfl, mS_no rfl⟩), trivial⟩ trivial (fun _ _ q => q) (xr_73 (S := S) hE hX hA hW0 hn h76 hT) (fun oq3 Sq3 hp4 q3 => ?_)
  rcases q3 with ⟨c, cs, ms, os, rfl, hf, hj, hP, hr, hje⟩ | ⟨e, x, rfl, hf, he, hP, hr⟩
  · skip
    show wJ _ _ _ _ _ _ _ _ _ _
    refine wa_istore_n (n := 2) rfl ?_
    refine wa_aload_n (n := 0) rfl ?_
    refine wa_iconst ?_
    refine wb_pfi 0 rfl (wy_pr rfl) wt_0 wf_10_1 (n := 1) rfl ⟨(by omega), (by omega)⟩ ?_
    refine wa_iload_n (n := 2) rfl ?_
    refine wa_ifne (w_rg0 (by omega) (by omega)) ⟨_, rfl⟩ (fun c5 => ?_) (fun c5 => ?_)
    · skip
      exact absurd c5 (by omega)
    · skip
      refine wa_aload_n (n := 0) rfl ?_
      refine wa_aload_n (n := 0) rfl ?_
      refine wb_gf4 0 rfl (wy_pr rfl) wt_0 wf_10_7 (v := 72) wl_0_7 ?_
      refine wb_gf5 72 rfl (wy_pr rfl) wt_72 wf_2_1 (v := 162) ((w_up_slot (by decide)).trans (((hP.1 72 1 (by decide) (by decide) (by decide) (by decide) (by decide) (by decide)).trans u1))) (fun r6 => ?_)
      refine wb_pfr 0 rfl (wy_pr rfl) wt_0 wf_10_10 (n := 10) rfl (Or.inr ⟨wy_pr rfl, by decide⟩) ?_
      refine wa_aload_n (n := 0) rfl ?_
      refine wb_gf4 0 rfl (wy_pr rfl) wt_0 wf_10_2 (v := 2) wl_0_2 ?_
      have hw2 : w2_I (w_up (w_up Sq3 0 1 0) 0 10 162) := w2_ag k3 (fun x hx => funext fun y => (w_up_slot (by omega)).trans ((w_up_slot (by omega)).trans (hP.1 (2 + x) y (by omega) (by unfold wG; omega) (by omega) (by omega) (by omega) (by omega))))
      refine wa_cv 2 rfl (wy_pr rfl) wt_2 (M2 := fun _ => False) rfl at_XW_clear ⟨_, rfl⟩ rfl rfl ⟨trivial, (Or.inr ⟨wy_pr rfl, fun q => q⟩), (Or.inr ⟨wy_pr rfl, fun q => q⟩), trivial⟩ trivial (fun _ _ q => False.elim q) (wcl_2 (S := (w_up (w_up Sq3 0 1 0) 0 10 162)) hw2) (fun oq7 Sq7 hp8 q7 => ?_)
      rcases q7 with ⟨rfl, w2, wc⟩
      show wJ _ _ _ _ _ _ _ _ _ _
      refine wa_aload_n (n := 0) rfl ?_
      refine wb_gf4 0 rfl (wy_pr rfl) wt_0 wf_10_4 (v := 19) wl_0_4 ?_
      refine wa_cv 19 rfl (wy_pr rfl) wt_19 (M2 := fun _ => False) rfl at_XC_clear ⟨_, rfl⟩ rfl rfl ⟨trivial, (Or.inr ⟨wy_pr rfl, fun q => q⟩), (Or.inr ⟨wy_pr rfl, fun q => q⟩), trivial⟩ trivial (fun _ _ q => False.elim q) (cc_c (S := Sq7)) (fun oq9 Sq9 hp10 q9 => ?_)
      rcases q9 with ⟨rfl, cc⟩
      show wJ _ _ _ _ _ _ _ _ _ _
      refine wa_aload_n (n := 0) rfl ?_
      refine wb_gf4 0 rfl (wy_pr rfl) wt_0 wf_10_7 (v := 72) wl_0_7 ?_
      refine wa_aload_n (n := 1) rfl ?_
      have hC3 : w_CL Sq9 := fun y hy => (cc.2.2 y.1 (-1) (Or.inr (by decide)) (Or.inr (by decide))).trans ((wc.2.2 y.1 (-1) (Or.inl (by decide))).trans ((w_up_at (by decide)).trans ((w_up_at (by decide)).trans (hP.2.2.1 y hy))))
      have l3 : ∀ j : Nat, j < 4000000 → j ≠ wG → (j < 14 ∨ 18 < j) → j ≠ 61 → j ≠ 62 → (j < 73 ∨ 125 < j) → Sq9 j (-1) = S j (-1) := fun j e1 e2 e3 e4 e5 e6 => (cc.2.2 j (-1) (Or.inr (by decide)) (Or.inr (by decide))).trans ((wc.2.2 j (-1) (Or.inl (by decide))).trans ((w_up_at (by decide)).trans ((w_up_at (by decide)).trans (hP.1 j (-1) e1 e2 e3 e4 e5 e6))))
      have y72 : Sq9 72 1 = 162 := ((cc.2.2 72 1 (by decide) (by decide)).trans ((wc.2.2 72 1 (Or.inr (by decide))).trans ((w_up_no (by decide)).trans (w_up_no (by decide))))).trans ((hP.1 72 1 (by decide) (by decide) (by decide) (by decide) (by decide) (by decide)).trans u1)
      have y150 : Sq9 150 5 = S 150 5 := ((cc.2.2 150 5 (by decide) (by decide)).trans ((wc.2.2 150 5 (Or.inr (by decide))).trans ((w_up_no (by decide)).trans (w_up_no (by decide))))).trans (hP.1 150 5 (by decide) (by decide) (by decide) (by decide) (by decide) (by decide))
      have y16 : Sq9 162 16 = S 162 16 := ((cc.2.2 162 16 (by decide) (by decide)).trans ((wc.2.2 162 16 (Or.inr (by decide))).trans ((w_up_no (by decide)).trans (w_up_no (by decide))))).trans (hP.1 162 16 (by decide) (by decide) (by decide) (by decide) (by decide) (by decide))
      have L144 : 64 ≤ Sq9 144 (-1) ∧ 64 ≤ Sq9 145 (-1) ∧ 64 ≤ Sq9 146 (-1) ∧ 64 ≤ Sq9 147 (-1) ∧ 64 ≤ Sq9 148 (-1) := by
        rw [l3 144 (by decide) (by decide) (by decide) (by decide) (by decide) (by decide), l3 145 (by decide) (by decide) (by decide) (by decide) (by decide) (by decide), l3 146 (by decide) (by decide) (by decide) (by decide) (by decide) (by decide), l3 147 (by decide) (by decide) (by decide) (by decide) (by decide) (by decide), l3 148 (by decide) (by decide) (by decide) (by decide) (by decide) (by decide)]; exact k11
      refine wa_cv 72 rfl (wy_pr rfl) wt_72 (M2 := fun _ => False) rfl at_XH_clear ⟨_, rfl⟩ rfl rfl ⟨trivial, (Or.inr ⟨wy_pr rfl, fun q => q⟩), (Or.inr ⟨wy_pr rfl, fun q => q⟩), trivial⟩ trivial (fun _ _ q => False.elim q) (hcl_162 (S := Sq9) hx1 hC3 y72 (by rw [y150, y16]; omega) L144) (fun oq11 Sq11 hp12 q11 => ?_)
      rcases q11 with ⟨rfl, hc⟩
      show wJ _ _ _ _ _ _ _ _ _ _
      refine wa_aload_n (n := 0) rfl ?_
      refine wb_gf4 0 rfl (wy_pr rfl) wt_0 wf_10_8 (v := 158) wl_0_8 ?_
      have hC4 : w_CL Sq11 := fun y hy => (hc.2.2 y.1 (-1) (Or.inl (by decide))).trans (hC3 y hy)
      have y19 : Sq11 19 11 = 0 ∧ Sq11 19 12 = -1 := ⟨(hc.2.2 19 11 (Or.inr (by decide))).trans cc.1.2.2.2.2.1, (hc.2.2 19 12 (Or.inr (by decide))).trans cc.1.2.2.2.2.2.1⟩
      have L48 : 16 ≤ Sq11 48 (-1) := by rw [hc.2.2 48 (-1) (Or.inl (by decide)), l3 48 (by decide) (by decide) (by decide) (by decide) (by decide) (by decide)]; exact k10
      refine wa_cv 158 rfl (wy_pr rfl) wt_158 (M2 := fun _ => False) rfl at_XL_clear ⟨_, rfl⟩ rfl rfl ⟨trivial, (Or.inr ⟨wy_pr rfl, fun q => q⟩), (Or.inr ⟨wy_pr rfl, fun q => q⟩), trivial⟩ trivial (fun _ _ q => False.elim q) (lc_c (S := Sq11) hC4 y19 L48) (fun oq13 Sq13 hp14 q13 => ?_)
      rcases q13 with ⟨rfl, lc⟩
      show wJ _ _ _ _ _ _ _ _ _ _
      refine wa_iconst ?_
      refine wa_istore_n (n := 3) rfl ?_
      refine wa_fall ⟨_, rfl⟩ ?_
      refine wa_iload_n (n := 3) rfl ?_
      refine wa_iconst ?_
      refine wa_icmpge (w_rg0 (by omega) (by omega)) (w_rg0 (by omega) (by omega)) ⟨_, rfl⟩ (fun c15 => ?_) (fun c15 => ?_)
      · skip
        exact absurd c15 (by omega)
      · skip
        refine wa_aload_n (n := 0) rfl ?_
        refine wb_gf4 0 rfl (wy_pr rfl) wt_0 wf_10_9 (v := 161) wl_0_9 ?_
        refine wa_iload_n (n := 3) rfl ?_
        refine wb_aald14 161 rfl (wy_pr rfl) wt_161 (by omega) (n := 2) (((lc.2.2 161 (-1) (by decide) (by decide) (by decide)).trans (((hc.2.2 161 (-1) (Or.inl (by decide))).trans (((cc.2.2 161 (-1) (by decide) (by decide)).trans (((wc.2.2 161 (-1) (Or.inl (by decide))).trans ((w_up_slot (by decide)).trans ((w_up_slot (by decide)).trans (((hP.1 161 (-1) (by decide) (by decide) (by decide) (by decide) (by decide) (by decide)).trans k7)))))))))))) (by omega) (v := 215) (((lc.2.2 161 0 (by decide) (by decide) (by decide)).trans (((hc.2.2 161 0 (Or.inr (by decide))).trans (((cc.2.2 161 0 (by decide) (by decide)).trans (((wc.2.2 161 0 (Or.inr (by decide))).trans ((w_up_slot (by decide)).trans ((w_up_slot (by decide)).trans (((hP.1 161 0 (by decide) (by decide) (by decide) (by decide) (by decide) (by decide)).trans k7a)))))))))))) ?_
        refine wa_cv 215 rfl (wy_pr rfl) wt_215 (M2 := fun _ => False) rfl at_XK_clear ⟨_, rfl⟩ rfl rfl ⟨trivial, trivial, (Or.inr ⟨wy_pr rfl, fun q => q⟩), (Or.inr ⟨wy_pr rfl, fun q => q⟩), trivial⟩ trivial (fun _ _ q => False.elim q) (tcl_215 (S := Sq13)) (fun oq16 Sq16 hp17 q16 => ?_)
        rcases q16 with ⟨rfl, rfl⟩
        show wJ _ _ _ _ _ _ _ _ _ _
        refine wa_iinc rfl rfl ?_
        refine wa_goto ⟨_, rfl⟩ ?_
        rw [show ((0 + 1) : Int) = 1 from rfl]
        refine wa_iload_n (n := 3) rfl ?_
        refine wa_iconst ?_
        refine wa_icmpge (w_rg0 (by omega) (by omega)) (w_rg0 (by omega) (by omega)) ⟨_, rfl⟩ (fun c18 => ?_) (fun c18 => ?_)
        · skip
          exact absurd c18 (by omega)
        · skip
          refine wa_aload_n (n := 0) rfl ?_
          refine wb_gf4 0 rfl (wy_pr rfl) wt_0 wf_10_9 (v := 161) wl_0_9 ?_
          refine wa_iload_n (n := 3) rfl ?_
          refine wb_aald14 161 rfl (wy_pr rfl) wt_161 (by omega) (n := 2) ((w_up_slot (by decide)).trans ((w_up_slot (by decide)).trans ((w_up_slot (by decide)).trans ((w_up_slot (by decide)).trans (((lc.2.2 161 (-1) (by decide) (by decide) (by decide)).trans (((hc.2.2 161 (-1) (Or.inl (by decide))).trans (((cc.2.2 161 (-1) (by decide) (by decide)).trans (((wc.2.2 161 (-1) (Or.inl (by decide))).trans ((w_up_slot (by decide)).trans ((w_up_slot (by decide)).trans (((hP.1 161 (-1) (by decide) (by decide) (by decide) (by decide) (by decide) (by decide)).trans k7)))))))))))))))) (by omega) (v := 226) ((w_up_slot (by decide)).trans ((w_up_slot (by decide)).trans ((w_up_slot (by decide)).trans ((w_up_slot (by decide)).trans (((lc.2.2 161 1 (by decide) (by decide) (by decide)).trans (((hc.2.2 161 1 (Or.inr (by decide))).trans (((cc.2.2 161 1 (by decide) (by decide)).trans (((wc.2.2 161 1 (Or.inr (by decide))).trans ((w_up_slot (by decide)).trans ((w_up_slot (by decide)).trans (((hP.1 161 1 (by decide) (by decide) (by decide) (by decide) (by decide) (by decide)).trans k7b)))))))))))))))) ?_
          refine wa_cv 226 rfl (wy_pr rfl) wt_226 (M2 := fun _ => False) rfl at_XK_clear ⟨_, rfl⟩ rfl rfl ⟨trivial, trivial, (Or.inr ⟨wy_pr rfl, fun q => q⟩), (Or.inr ⟨wy_pr rfl, fun q => q⟩), trivial⟩ trivial (fun _ _ q => False.elim q) (tcl_226 (S := (w_up (w_up (w_up (w_up Sq13 215 13 0) 215 4 0) 216 2 0) 215 12 0))) (fun oq19 Sq19 hp20 q19 => ?_)
          rcases q19 with ⟨rfl, rfl⟩
          show wJ _ _ _ _ _ _ _ _ _ _
          refine wa_iinc rfl rfl ?_
          refine wa_goto ⟨_, rfl⟩ ?_
          rw [show ((1 + 1) : Int) = 2 from rfl]
          refine wa_iload_n (n := 3) rfl ?_
          refine wa_iconst ?_
          refine wa_icmpge (w_rg0 (by omega) (by omega)) (w_rg0 (by omega) (by omega)) ⟨_, rfl⟩ (fun c21 => ?_) (fun c21 => ?_)
          · skip
            refine wa_iload_n (n := 2) rfl ?_
            refine wa_ireturn rfl ?_
            exact Or.inl ⟨c, cs, ms, os, _, rfl, hf, hj, hP, hr, hje, _, _, _, _, w2, wc, cc, hc, lc, rfl⟩
          · skip
            exact absurd c21 (by omega)
  · skip
    show wJ _ _ _ _ _ _ _ _ _ _
    refine wa_istore_n (n := 2) rfl ?_
    refine wa_aload_n (n := 0) rfl ?_
    refine wa_iconst ?_
    refine wb_pfi 0 rfl (wy_pr rfl) wt_0 wf_10_1 (n := 1) rfl ⟨(by omega), (by omega)⟩ ?_
    refine wa_iload_n (n := 2) rfl ?_
    refine wa_ifne (w_rg0 (by omega) (by omega)) ⟨_, rfl⟩ (fun c22 => ?_) (fun c22 => ?_)
    · skip
      refine wa_iload_n (n := 2) rfl ?_
      refine wa_ireturn rfl ?_
      exact Or.inr ⟨e, x, _, rfl, hf, he, hP, hr, rfl⟩
    · skip
      exact absurd c22 (by omega)
theorem xr_162 {JE : List hCR → List hMR → (Int → List Int) → wS → Prop} (hE : ∀ c : Nat, JE_162 A T n c JE) (hX : w_X xs) (hA : zT A T n) (hW : cW S) (hn : S 0 1 = n) (h76 : n ≤ 8176) (hT : ∀ i : Int, 0 ≤ i → i < n → S 1 i = T i) : wJ (pe_GA xs) wY0 (mS [15, 16, 17, 164, 165, 166, 167, 168, 169, 206, 207]) (d + 13) t_XT_read ((pe_at t_XT_read.bl 0).getD (0, [])).2 [(0, (2, 61)), (1, (2, 1)), (2, (0, n)), (3, (2, 162))] [] S (fun o Z => (∃ (c : Nat) (cs : List hCR) (ms : List hMR) (os : Int → List Int), o = .inl (some (0, 0)) ∧ ho_f_261 A 61 [] [] (tp T n 1 0) = .inr (cs, ms) ∧ JT_162 A T n c cs ms os Z ∧ hs_P 162 163 206 207 214 S Z ∧ rmR S Z ∧ JE cs ms os Z) ∨ (∃ e x : Int, o = .inl (some (0, e + 16 * x)) ∧ ho_f_261 A 61 [] [] (tp T n 1 0) = .inl (e, x) ∧ (0 < e + 16 * x ∧ e + 16 * x ≤ 2000000) ∧ hs_P 162 163 206 207 214 S Z ∧ xr_G S Z)) := by
  obtain ⟨k1, k2, k3, k4, k5, k6, k7, k8, k9, k10, k11⟩ := hW
  have hi := k5
  rw [hn] at k8 k9
  refine wJ_mono (hrd_162 hE hX (as_163_ok (wx_49 hX)) hA k2 k1 hi.1 hi.2.1 hi.2.2.1 ⟨k8.1, k8.2.1, k8.2.2.1, by omega⟩ hT (fun i i0 i1 => by rw [← hT i i0 i1]; exact k9 i i0 i1) ⟨k6.1, k6.2.1, k6.2.2.1, by have := k6.2.2.2; omega⟩ ⟨Int.le_trans hi.2.2.2.1 (by decide), Int.le_trans hi.2.2.2.2 (by decide)⟩) (fun o Z hz => ?_)
  rcases hz with ⟨Zc, Zr, c, g1, g2, ⟨cs, ms, os, g3, g4, g5, g6, g9⟩ | ⟨e, x, v, cs, ms, os, S2, Z0, g3, g4, ⟨g5, g6⟩, g7, g8⟩⟩
  · obtain ⟨q1, q2⟩ := hs_ok_162 g1 k1 ⟨k8.1, h76⟩ k6 hi g2 g5 g6
    exact Or.inl ⟨c, cs, ms, os, g3, g4, g5, q1, q2, g9⟩
  · obtain ⟨q1, Z1, q2, q3, q4, q5, q6⟩ := hs_no_162 g1 k1 ⟨k8.1, h76⟩ k6 hi g2 g5 g6 g7 g8
    exact Or.inr ⟨e, x, g3, g4, q6, q1, Z1, q2, q3, q4, q5⟩
theorem xh_162 {JE : List hCR → List hMR → (Int → List Int) → wS → Prop} (hE : ∀ c : Nat, JE_162 A T n c JE) (hX : w_X xs) (hx1 : pe_at (pe_GA xs).xs 1 = some (1, tx_1)) (hA : zT A T n) (hW : cW S) (hH : cH 73 162 S) (hn : S 0 1 = n) (h76 : n ≤ 8176) (hT : ∀ i : Int, 0 ≤ i → i < n → S 1 i = T i) : wJ (pe_GA xs) wY0 (mS [15, 16, 17, 164, 165, 166, 167, 168, 169, 206, 207]) (d + 14) t_X_host ((pe_at t_X_host.bl 0).getD (0, [])).2 [(0, (2, 0))] [] S (fun o Z => (∃ (c : Nat) (cs : List hCR) (ms : List hMR) (os : Int → List Int) (Zr : wS), o = .inl (some (0, 0)) ∧ ho_f_261 A 61 [] [] (tp T n 1 0) = .inr (cs, ms) ∧ JT_162 A T n c cs ms os Zr ∧ hs_P 162 163 206 207 214 S Zr ∧ rmR S Zr ∧ JE cs ms os Zr ∧ cl_ch 73 162 Zr Z) ∨ (∃ (e x : Int) (Zr : wS), o = .inl (some (0, e + 16 * x)) ∧ ho_f_261 A 61 [] [] (tp T n 1 0) = .inl (e, x) ∧ (0 < e + 16 * x ∧ e + 16 * x ≤ 2000000) ∧ hs_P 162 163 206 207 214 S Zr ∧ xr_G S Zr ∧ Z = w_up Zr 0 1 0)) := by
  have hW0 := hW
  obtain ⟨k1, k2, k3, k4, k5, k6, ⟨k7, k7a, k7b⟩, k8, k9, k10, k11⟩ := hW
  obtain ⟨u1, u2, u3, u4, u5, u6⟩ := hH
  rw [hn] at k8
  refine wa_aload_n (n := 0) rfl ?_
  refine wb_gf5 0 rfl (wy_pr rfl) wt_0 wf_10_10 (v := 162) (u2) (fun r1 => ?_)
  refine wa_astore_n (n := 1) rfl ?_
  refine wa_aload_n (n := 0) rfl ?_
  refine wb_gf4 0 rfl (wy_pr rfl) wt_0 wf_10_5 (v := 61) wl_0_5 ?_
  refine wa_aload_n (n := 0) rfl ?_
  refine wb_gf4 0 rfl (wy_pr rfl) wt_0 wf_10_0 (v := 1) wl_0_0 ?_
  refine wa_aload_n (n := 0) rfl ?_
  refine wb_gfi 0 rfl (wy_pr rfl) wt_0 wf_10_1 (v := n) (hn) (fun r2 => ?_)
  refine wa_aload_n (n := 1) rfl ?_
  refine wa_cv 61 rfl (wy_pr rfl) wt_61 (M2 := mS [15, 16, 17, 164, 165, 166, 167, 168, 169, 206, 207]) rfl at_XT_read ⟨_, rfl⟩ rfl rfl ⟨(Or.inr ⟨wy_pr rfl, mS_no rfl⟩), (Or.inr ⟨wy_pr rfl, mS_no rfl⟩), trivial⟩ trivial (fun _ _ q => q) (xr_162 (S := S) hE hX hA hW0 hn h76 hT) (fun oq3 Sq3 hp4 q3 => ?_)
  rcases q3 with ⟨c, cs, ms, os, rfl, hf, hj, hP, hr, hje⟩ | ⟨e, x, rfl, hf, he, hP, hr⟩
  · skip
    show wJ _ _ _ _ _ _ _ _ _ _
    refine wa_istore_n (n := 2) rfl ?_
    refine wa_aload_n (n := 0) rfl ?_
    refine wa_iconst ?_
    refine wb_pfi 0 rfl (wy_pr rfl) wt_0 wf_10_1 (n := 1) rfl ⟨(by omega), (by omega)⟩ ?_
    refine wa_iload_n (n := 2) rfl ?_
    refine wa_ifne (w_rg0 (by omega) (by omega)) ⟨_, rfl⟩ (fun c5 => ?_) (fun c5 => ?_)
    · skip
      exact absurd c5 (by omega)
    · skip
      refine wa_aload_n (n := 0) rfl ?_
      refine wa_aload_n (n := 0) rfl ?_
      refine wb_gf4 0 rfl (wy_pr rfl) wt_0 wf_10_7 (v := 72) wl_0_7 ?_
      refine wb_gf5 72 rfl (wy_pr rfl) wt_72 wf_2_1 (v := 73) ((w_up_slot (by decide)).trans (((hP.1 72 1 (by decide) (by decide) (by decide) (by decide) (by decide) (by decide)).trans u1))) (fun r6 => ?_)
      refine wb_pfr 0 rfl (wy_pr rfl) wt_0 wf_10_10 (n := 10) rfl (Or.inr ⟨wy_pr rfl, by decide⟩) ?_
      refine wa_aload_n (n := 0) rfl ?_
      refine wb_gf4 0 rfl (wy_pr rfl) wt_0 wf_10_2 (v := 2) wl_0_2 ?_
      have hw2 : w2_I (w_up (w_up Sq3 0 1 0) 0 10 73) := w2_ag k3 (fun x hx => funext fun y => (w_up_slot (by omega)).trans ((w_up_slot (by omega)).trans (hP.1 (2 + x) y (by omega) (by unfold wG; omega) (by omega) (by omega) (by omega) (by omega))))
      refine wa_cv 2 rfl (wy_pr rfl) wt_2 (M2 := fun _ => False) rfl at_XW_clear ⟨_, rfl⟩ rfl rfl ⟨trivial, (Or.inr ⟨wy_pr rfl, fun q => q⟩), (Or.inr ⟨wy_pr rfl, fun q => q⟩), trivial⟩ trivial (fun _ _ q => False.elim q) (wcl_2 (S := (w_up (w_up Sq3 0 1 0) 0 10 73)) hw2) (fun oq7 Sq7 hp8 q7 => ?_)
      rcases q7 with ⟨rfl, w2, wc⟩
      show wJ _ _ _ _ _ _ _ _ _ _
      refine wa_aload_n (n := 0) rfl ?_
      refine wb_gf4 0 rfl (wy_pr rfl) wt_0 wf_10_4 (v := 19) wl_0_4 ?_
      refine wa_cv 19 rfl (wy_pr rfl) wt_19 (M2 := fun _ => False) rfl at_XC_clear ⟨_, rfl⟩ rfl rfl ⟨trivial, (Or.inr ⟨wy_pr rfl, fun q => q⟩), (Or.inr ⟨wy_pr rfl, fun q => q⟩), trivial⟩ trivial (fun _ _ q => False.elim q) (cc_c (S := Sq7)) (fun oq9 Sq9 hp10 q9 => ?_)
      rcases q9 with ⟨rfl, cc⟩
      show wJ _ _ _ _ _ _ _ _ _ _
      refine wa_aload_n (n := 0) rfl ?_
      refine wb_gf4 0 rfl (wy_pr rfl) wt_0 wf_10_7 (v := 72) wl_0_7 ?_
      refine wa_aload_n (n := 1) rfl ?_
      have hC3 : w_CL Sq9 := fun y hy => (cc.2.2 y.1 (-1) (Or.inr (by decide)) (Or.inr (by decide))).trans ((wc.2.2 y.1 (-1) (Or.inl (by decide))).trans ((w_up_at (by decide)).trans ((w_up_at (by decide)).trans (hP.2.2.1 y hy))))
      have l3 : ∀ j : Nat, j < 4000000 → j ≠ wG → (j < 14 ∨ 18 < j) → j ≠ 61 → j ≠ 62 → (j < 162 ∨ 214 < j) → Sq9 j (-1) = S j (-1) := fun j e1 e2 e3 e4 e5 e6 => (cc.2.2 j (-1) (Or.inr (by decide)) (Or.inr (by decide))).trans ((wc.2.2 j (-1) (Or.inl (by decide))).trans ((w_up_at (by decide)).trans ((w_up_at (by decide)).trans (hP.1 j (-1) e1 e2 e3 e4 e5 e6))))
      have y72 : Sq9 72 1 = 73 := ((cc.2.2 72 1 (by decide) (by decide)).trans ((wc.2.2 72 1 (Or.inr (by decide))).trans ((w_up_no (by decide)).trans (w_up_no (by decide))))).trans ((hP.1 72 1 (by decide) (by decide) (by decide) (by decide) (by decide) (by decide)).trans u1)
      have y150 : Sq9 150 5 = S 150 5 := ((cc.2.2 150 5 (by decide) (by decide)).trans ((wc.2.2 150 5 (Or.inr (by decide))).trans ((w_up_no (by decide)).trans (w_up_no (by decide))))).trans (hP.1 150 5 (by decide) (by decide) (by decide) (by decide) (by decide) (by decide))
      have y16 : Sq9 73 16 = S 73 16 := ((cc.2.2 73 16 (by decide) (by decide)).trans ((wc.2.2 73 16 (Or.inr (by decide))).trans ((w_up_no (by decide)).trans (w_up_no (by decide))))).trans (hP.1 73 16 (by decide) (by decide) (by decide) (by decide) (by decide) (by decide))
      have L144 : 64 ≤ Sq9 144 (-1) ∧ 64 ≤ Sq9 145 (-1) ∧ 64 ≤ Sq9 146 (-1) ∧ 64 ≤ Sq9 147 (-1) ∧ 64 ≤ Sq9 148 (-1) := by
        rw [l3 144 (by decide) (by decide) (by decide) (by decide) (by decide) (by decide), l3 145 (by decide) (by decide) (by decide) (by decide) (by decide) (by decide), l3 146 (by decide) (by decide) (by decide) (by decide) (by decide) (by decide), l3 147 (by decide) (by decide) (by decide) (by decide) (by decide) (by decide), l3 148 (by decide) (by decide) (by decide) (by decide) (by decide) (by decide)]; exact k11
      refine wa_cv 72 rfl (wy_pr rfl) wt_72 (M2 := fun _ => False) rfl at_XH_clear ⟨_, rfl⟩ rfl rfl ⟨trivial, (Or.inr ⟨wy_pr rfl, fun q => q⟩), (Or.inr ⟨wy_pr rfl, fun q => q⟩), trivial⟩ trivial (fun _ _ q => False.elim q) (hcl_73 (S := Sq9) hx1 hC3 y72 (by rw [y150, y16]; omega) L144) (fun oq11 Sq11 hp12 q11 => ?_)
      rcases q11 with ⟨rfl, hc⟩
      show wJ _ _ _ _ _ _ _ _ _ _
      refine wa_aload_n (n := 0) rfl ?_
      refine wb_gf4 0 rfl (wy_pr rfl) wt_0 wf_10_8 (v := 158) wl_0_8 ?_
      have hC4 : w_CL Sq11 := fun y hy => (hc.2.2 y.1 (-1) (Or.inl (by decide))).trans (hC3 y hy)
      have y19 : Sq11 19 11 = 0 ∧ Sq11 19 12 = -1 := ⟨(hc.2.2 19 11 (Or.inr (by decide))).trans cc.1.2.2.2.2.1, (hc.2.2 19 12 (Or.inr (by decide))).trans cc.1.2.2.2.2.2.1⟩
      have L48 : 16 ≤ Sq11 48 (-1) := by rw [hc.2.2 48 (-1) (Or.inl (by decide)), l3 48 (by decide) (by decide) (by decide) (by decide) (by decide) (by decide)]; exact k10
      refine wa_cv 158 rfl (wy_pr rfl) wt_158 (M2 := fun _ => False) rfl at_XL_clear ⟨_, rfl⟩ rfl rfl ⟨trivial, (Or.inr ⟨wy_pr rfl, fun q => q⟩), (Or.inr ⟨wy_pr rfl, fun q => q⟩), trivial⟩ trivial (fun _ _ q => False.elim q) (lc_c (S := Sq11) hC4 y19 L48) (fun oq13 Sq13 hp14 q13 => ?_)
      rcases q13 with ⟨rfl, lc⟩
      show wJ _ _ _ _ _ _ _ _ _ _
      refine wa_iconst ?_
      refine wa_istore_n (n := 3) rfl ?_
      refine wa_fall ⟨_, rfl⟩ ?_
      refine wa_iload_n (n := 3) rfl ?_
      refine wa_iconst ?_
      refine wa_icmpge (w_rg0 (by omega) (by omega)) (w_rg0 (by omega) (by omega)) ⟨_, rfl⟩ (fun c15 => ?_) (fun c15 => ?_)
      · skip
        exact absurd c15 (by omega)
      · skip
        refine wa_aload_n (n := 0) rfl ?_
        refine wb_gf4 0 rfl (wy_pr rfl) wt_0 wf_10_9 (v := 161) wl_0_9 ?_
        refine wa_iload_n (n := 3) rfl ?_
        refine wb_aald14 161 rfl (wy_pr rfl) wt_161 (by omega) (n := 2) (((lc.2.2 161 (-1) (by decide) (by decide) (by decide)).trans (((hc.2.2 161 (-1) (Or.inl (by decide))).trans (((cc.2.2 161 (-1) (by decide) (by decide)).trans (((wc.2.2 161 (-1) (Or.inl (by decide))).trans ((w_up_slot (by decide)).trans ((w_up_slot (by decide)).trans (((hP.1 161 (-1) (by decide) (by decide) (by decide) (by decide) (by decide) (by decide)).trans k7)))))))))))) (by omega) (v := 215) (((lc.2.2 161 0 (by decide) (by decide) (by decide)).trans (((hc.2.2 161 0 (Or.inr (by decide))).trans (((cc.2.2 161 0 (by decide) (by decide)).trans (((wc.2.2 161 0 (Or.inr (by decide))).trans ((w_up_slot (by decide)).trans ((w_up_slot (by decide)).trans (((hP.1 161 0 (by decide) (by decide) (by decide) (by decide) (by decide) (by decide)).trans k7a)))))))))))) ?_
        refine wa_cv 215 rfl (wy_pr rfl) wt_215 (M2 := fun _ => False) rfl at_XK_clear ⟨_, rfl⟩ rfl rfl ⟨trivial, trivial, (Or.inr ⟨wy_pr rfl, fun q => q⟩), (Or.inr ⟨wy_pr rfl, fun q => q⟩), trivial⟩ trivial (fun _ _ q => False.elim q) (tcl_215 (S := Sq13)) (fun oq16 Sq16 hp17 q16 => ?_)
        rcases q16 with ⟨rfl, rfl⟩
        show wJ _ _ _ _ _ _ _ _ _ _
        refine wa_iinc rfl rfl ?_
        refine wa_goto ⟨_, rfl⟩ ?_
        rw [show ((0 + 1) : Int) = 1 from rfl]
        refine wa_iload_n (n := 3) rfl ?_
        refine wa_iconst ?_
        refine wa_icmpge (w_rg0 (by omega) (by omega)) (w_rg0 (by omega) (by omega)) ⟨_, rfl⟩ (fun c18 => ?_) (fun c18 => ?_)
        · skip
          exact absurd c18 (by omega)
        · skip
          refine wa_aload_n (n := 0) rfl ?_
          refine wb_gf4 0 rfl (wy_pr rfl) wt_0 wf_10_9 (v := 161) wl_0_9 ?_
          refine wa_iload_n (n := 3) rfl ?_
          refine wb_aald14 161 rfl (wy_pr rfl) wt_161 (by omega) (n := 2) ((w_up_slot (by decide)).trans ((w_up_slot (by decide)).trans ((w_up_slot (by decide)).trans ((w_up_slot (by decide)).trans (((lc.2.2 161 (-1) (by decide) (by decide) (by decide)).trans (((hc.2.2 161 (-1) (Or.inl (by decide))).trans (((cc.2.2 161 (-1) (by decide) (by decide)).trans (((wc.2.2 161 (-1) (Or.inl (by decide))).trans ((w_up_slot (by decide)).trans ((w_up_slot (by decide)).trans (((hP.1 161 (-1) (by decide) (by decide) (by decide) (by decide) (by decide) (by decide)).trans k7)))))))))))))))) (by omega) (v := 226) ((w_up_slot (by decide)).trans ((w_up_slot (by decide)).trans ((w_up_slot (by decide)).trans ((w_up_slot (by decide)).trans (((lc.2.2 161 1 (by decide) (by decide) (by decide)).trans (((hc.2.2 161 1 (Or.inr (by decide))).trans (((cc.2.2 161 1 (by decide) (by decide)).trans (((wc.2.2 161 1 (Or.inr (by decide))).trans ((w_up_slot (by decide)).trans ((w_up_slot (by decide)).trans (((hP.1 161 1 (by decide) (by decide) (by decide) (by decide) (by decide) (by decide)).trans k7b)))))))))))))))) ?_
          refine wa_cv 226 rfl (wy_pr rfl) wt_226 (M2 := fun _ => False) rfl at_XK_clear ⟨_, rfl⟩ rfl rfl ⟨trivial, trivial, (Or.inr ⟨wy_pr rfl, fun q => q⟩), (Or.inr ⟨wy_pr rfl, fun q => q⟩), trivial⟩ trivial (fun _ _ q => False.elim q) (tcl_226 (S := (w_up (w_up (w_up (w_up Sq13 215 13 0) 215 4 0) 216 2 0) 215 12 0))) (fun oq19 Sq19 hp20 q19 => ?_)
          rcases q19 with ⟨rfl, rfl⟩
          show wJ _ _ _ _ _ _ _ _ _ _
          refine wa_iinc rfl rfl ?_
          refine wa_goto ⟨_, rfl⟩ ?_
          rw [show ((1 + 1) : Int) = 2 from rfl]
          refine wa_iload_n (n := 3) rfl ?_
          refine wa_iconst ?_
          refine wa_icmpge (w_rg0 (by omega) (by omega)) (w_rg0 (by omega) (by omega)) ⟨_, rfl⟩ (fun c21 => ?_) (fun c21 => ?_)
          · skip
            refine wa_iload_n (n := 2) rfl ?_
            refine wa_ireturn rfl ?_
            exact Or.inl ⟨c, cs, ms, os, _, rfl, hf, hj, hP, hr, hje, _, _, _, _, w2, wc, cc, hc, lc, rfl⟩
          · skip
            exact absurd c21 (by omega)
  · skip
    show wJ _ _ _ _ _ _ _ _ _ _
    refine wa_istore_n (n := 2) rfl ?_
    refine wa_aload_n (n := 0) rfl ?_
    refine wa_iconst ?_
    refine wb_pfi 0 rfl (wy_pr rfl) wt_0 wf_10_1 (n := 1) rfl ⟨(by omega), (by omega)⟩ ?_
    refine wa_iload_n (n := 2) rfl ?_
    refine wa_ifne (w_rg0 (by omega) (by omega)) ⟨_, rfl⟩ (fun c22 => ?_) (fun c22 => ?_)
    · skip
      refine wa_iload_n (n := 2) rfl ?_
      refine wa_ireturn rfl ?_
      exact Or.inr ⟨e, x, _, rfl, hf, he, hP, hr, rfl⟩
    · skip
      exact absurd c22 (by omega)
end Wag
