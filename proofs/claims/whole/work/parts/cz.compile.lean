/-! PART cz: the class's compile. -/
section Wcz
variable {xs : List (Nat × List Int32)} {M : Nat → Prop} {d : Nat} {A B C S Z : wS} {Q : wO → wS → Prop}
variable {f0 u a b op : Int} {I : List pz_I} {F : List pz_F} {x : pz_I} {k r : Nat}
variable {p sb un n : Int} {T : Int → Int} {N X : List (List Int)} {c i : Nat} {w : Int} {A1 A2 R : wS}
/-- the class, as it begins to read a program -/
def cB (n : Int) (S : wS) : wS := (w_up (w_up (w_up (w_up (w_up (w_up (w_up (w_up (w_up (w_up (w_up (w_up (w_up (w_up (w_up (w_up S 63 7 0) 63 8 0) 63 10 0) 63 13 0) 63 15 0) 63 17 0) 11 0 (S 2 1)) 11 1 (S 2 7)) 11 2 (S 2 10)) 11 3 (S 2 12)) 14 5 1) 14 6 n) 14 7 2) 14 8 0) 14 3 0) 14 4 0)
/-- the number and place of a fault, as the class has it -/
def cxF (T : Int → Int) (n : Int) (N X : List (List Int)) (f0 p sb x : Int) : Prop := ((400 ≤ f0 ∧ ((kq T n N X 0 = 0 ∨ pz_bs (kq T n N X 0)) ∧ x = 7 + 16 * tp T n 0 0 ∨ (kq T n N X 0 ≠ 0 ∧ ¬ pz_bs (kq T n N X 0)) ∧ x = 1 + 16 * tp T n 0 0)) ∨ (f0 < 400 ∧ cD T n N X f0 (fun R => R 0 0 [] 0 0 f0 [] [(-1, 0, [])]) (.inl x)) ∨ (f0 < 400 ∧ ∃ (i2 : Nat) (I2 : List pz_I) (F2 : List pz_F) (t : Int), cD T n N X f0 (fun R => R 0 0 [] 0 0 f0 [] [(-1, 0, [])]) (.inr (i2, I2, F2, t)) ∧ ((kq T n N X i2 ≠ 0 ∧ x = 1 + 16 * tp T n 0 i2) ∨ (kq T n N X i2 = 0 ∧ ¬ (p + (I2.length : Int) + 2 ≤ 20000 ∧ sb + pz_s I2 ≤ 4000) ∧ x = 7 + 16 * tp T n 0 i2))))
/-- which instructions come in a unit -/
theorem cD_nK {i2 : Nat} {I2 : List pz_I} {F2 : List pz_F} {t : Int} (hf : 0 ≤ f0) (h : cD T n N X f0 (fun R => R 0 0 [] 0 0 f0 [] [(-1, 0, [])]) (.inr (i2, I2, F2, t))) : nK f0 I2 := by
  have h2 := h (R9 f0) (R9_C hf (fun i hi => vq_nn hi))
  obtain ⟨L, hL, h3⟩ := gn_0 h2
  rw [hL]
  exact h3
theorem cm_RR (hI : ci_I I S) (hF : ci_F f0 i I F S) (h9 : nK f0 I) (h7 : S 19 7 = p) (ha : ai_ag (I.length : Int) (w_up (w_up (w_up S 30 (S 19 3) (S 19 1)) 19 3 ((S 19 3) + 1)) 19 1 ((S 19 1) + (S 63 10))) A1) (h1 : c1I f0 p F.length A1 A2) (h2 : c2I f0 p F.length I.length A2 R) : cmR f0 I F.length p R ∧ R 19 9 = S 19 9 := by
  obtain ⟨b1, b2, b3, b4, b5, b6⟩ := ha
  obtain ⟨d1, d2, d3, d4⟩ := h1
  obtain ⟨g1, g2, g3, g4, g5, g6⟩ := hF
  have hw : wG = 1000000 := rfl
  have fr1 : ∀ (j : Nat) (x : Int), j < 4000000 → j ≠ wG → j ≠ 31 → j ≠ 32 → j ≠ 33 → (j ≠ 19 ∨ (x ≠ 7 ∧ x ≠ 3 ∧ x ≠ 1)) → j ≠ 30 → A1 j x = S j x := fun j x q0 q1 q2 q3 q4 q5 q6 => (b4 j x q0 q1 q2 q3 q4 (by omega)).trans ((w_up_no (by omega)).trans ((w_up_no (by omega)).trans (w_up_no (by omega))))
  have hA1 : ∀ k : Nat, k < F.length → A1 24 (f0 + (k : Int)) = pz_h I (f0 + (k : Int)) := fun k hk => (fr1 24 _ (by decide) (by decide) (by decide) (by decide) (by decide) (by omega) (by decide)).trans (g6 k hk).2.2.2.2.1
  have hps : ∀ k : Nat, k ≤ F.length → psm (A1 24) f0 k = (psm (fun u => pz_h I u) f0 k) := fun k hk => psm_cg k (fun x hx => hA1 x (by omega))
  have a27 : ∀ k : Nat, k < F.length → A2 27 (f0 + (k : Int)) = p + (psm (fun u => pz_h I u) f0 k) := fun k hk => by rw [(d1 k hk).1, hps k (by omega)]
  have fr2 : ∀ (j : Nat) (x : Int), j ≠ 27 → j ≠ 24 → A2 j x = A1 j x := fun j x q1 q2 => d2 j x (Or.inl ⟨q1, q2⟩)
  have fr12 : ∀ (j : Nat) (x : Int), 64 ≤ j → j ≤ 67 → A2 j x = S j x := fun j x q1 q2 => (fr2 j x (by omega) (by omega)).trans (fr1 j x (by omega) (by omega) (by omega) (by omega) (by omega) (by omega) (by omega))
  have a64 : ∀ k : Nat, k < I.length → A2 64 (k : Int) = (I.getD k (0, 0, 0, 0)).1 ∧ A2 65 (k : Int) = (I.getD k (0, 0, 0, 0)).2.1 ∧ A2 66 (k : Int) = (I.getD k (0, 0, 0, 0)).2.2.1 ∧ A2 67 (k : Int) = (I.getD k (0, 0, 0, 0)).2.2.2 := fun k hk => by
    obtain ⟨x1, x2, x3, x4⟩ := hI.2.2 k hk
    have hm : (I.getD k (0, 0, 0, 0)) ∈ I := by rw [List.getD_eq_getElem?_getD, List.getElem?_eq_getElem hk]; exact List.getElem_mem hk
    exact ⟨(fr12 64 _ (by decide) (by decide)).trans x1, (fr12 65 _ (by decide) (by decide)).trans (x2 (h9 _ hm).1), (fr12 66 _ (by decide) (by decide)).trans x3, (fr12 67 _ (by decide) (by decide)).trans x4⟩
  refine ⟨cm_R (m := F.length) a64 a27 h2, ?_⟩
  rw [h2.2.2.2.1 19 9 (by omega) (by omega), fr2 19 9 (by decide) (by decide)]
  exact fr1 19 9 (by decide) (by decide) (by decide) (by decide) (by decide) (by omega) (by decide)
theorem kf11 {v : Int} (h : kf_I f0 F S) : kf_I f0 F (w_up S 63 11 v) := by
  obtain ⟨⟨a1, a2⟩, a3, a4⟩ := h
  exact ⟨⟨fun q hq => (w_up_at (by decide)).trans (a1 q hq), a2⟩, a3, a4⟩
/-- commit, behind a program that was read -/
theorem xm_w (hq : cQ T n N X c f0 f0 0 i I F S) (h9 : nK f0 I) (hun : S 19 3 = un) (hu : 0 ≤ un ∧ un < 16) (h7 : S 19 7 = p) (hp : 0 ≤ p ∧ p + (I.length : Int) ≤ 20000 ∧ p ≤ S 31 (-1)) (l32 : S 32 (-1) = S 31 (-1)) (l33 : S 33 (-1) = S 31 (-1)) (hl : 64 ≤ S 31 (-1) ∧ S 31 (-1) ≤ 40000) (hs : si_L S) (hd : dN (S 35) (S 36) (S 37) (S 40) (S 19 9) (S 19 16)) (h19 : S 19 9 = sb) (hsb : sb + pz_s I ≤ 4000) : wJ (pe_GA xs) wY0 (mS [31, 32, 33, 35, 36, 37, 38, 39, 40, 41, 42, 43, 44, 45, 46, 58, 59]) (d + 5) t_XP_commit ((pe_at t_XP_commit.bl 0).getD (0, [])).2 [(0, (2, 63))] [] (w_up S 63 11 (-1)) (fun o Z => o = .inl (some (0, un)) ∧ kC f0 I F un p sb (w_up S 63 11 (-1)) Z) := by
  have hkf := kf11 (v := -1) (kf_of hq)
  obtain ⟨q1, ⟨q2, q3⟩, ⟨q4, q5⟩, q6, q7, q8, q9, q10⟩ := hq
  have hI2 : ci_I I (w_up S 63 11 (-1)) := q5
  have hF2 : ci_F f0 i I F (w_up S 63 11 (-1)) := q6
  have hO : ∀ k : Nat, k < I.length → S 67 (k : Int) = (I.getD k (0, 0, 0, 0)).2.2.2 := fun k hk => (q5.2.2 k hk).2.2.2
  have hgI : gI (w_up S 63 11 (-1)) := gI_up q2 (by omega) (by omega) (by omega)
  have h0 := hs.1.1
  refine wJ_mono (cm_ok (S := w_up S 63 11 (-1)) (N0 := I.length) hkf q6.1 (by show 0 ≤ S 19 3 ∧ S 19 3 < 16; omega) hgI q4 q5.1 (by show 0 ≤ S 19 7 ∧ S 19 7 + _ ≤ 20000; omega) l32 l33 hl (si_L_ag hs (fun j x hj => w_up_slot (by omega))) hd (fun x hx => ?_) (fun k hk => ?_) (fun B1 B2 B3 r1 r2 r3 => ?_)) (fun o Z hz => ?_)
  · show f0 ≤ S 67 (x : Int) ∧ S 67 (x : Int) < f0 + (F.length : Int)
    rw [hO x hx]
    refine q6.2.2.2.2.1 _ ?_
    rw [List.getD_eq_getElem?_getD, List.getElem?_eq_getElem hx]
    exact List.getElem_mem hx
  · show S 24 (f0 + (k : Int)) = oct (S 67) (f0 + (k : Int)) I.length
    rw [oct_on hO I.length (Nat.le_refl _), List.take_length, on_len]
    exact (q6.2.2.2.2.2 k hk).2.2.2.2.1
  · have e7 : (w_up S 63 11 (-1)) 19 7 = p := h7
    rw [e7] at r2 r3
    obtain ⟨r4, r5⟩ := cm_RR hI2 hF2 h9 e7 r1 r2 r3
    rw [cm_ssm r4 F.length (Nat.le_refl _), psm_so f0 F.length I q6.2.2.2.2.1, r5]
    show S 19 9 + _ ≤ 4000
    omega
  · obtain ⟨rfl, hz⟩ := hz
    refine ⟨by show Sum.inl (some (0, S 19 3)) = _; rw [hun], cm_C hI2 hF2 h9 hun hu.1 h7 ⟨hp.1, hp.2.2⟩ h19 (by omega) hz⟩
set_option maxHeartbeats 4000000 in
theorem xc_w {D : Nat} (hx49 : pe_at (pe_GA xs).xs 49 = some (0, tx_49)) (hx101 : pe_at (pe_GA xs).xs 101 = some (1, tx_101)) (hC : w_CL S) (hI : gI S) (hn : 0 ≤ n ∧ n ≤ 8176 ∧ n ≤ S 1 (-1) ∧ S 1 (-1) ≤ 2147483647) (h01 : S 0 1 = n) (hT : ∀ i : Int, 0 ≤ i → i < n → S 1 i = T i) (hCh : ∀ i : Int, 0 ≤ i → i < n → T i = 10 ∨ (32 ≤ T i ∧ T i ≤ 126)) (hW : wd_at S 2 1024) (hL : wd_L S 2 1024) (hV : wv_L S 2) (hR : hs_R S) (h33 : 33 ≤ S 2 7) (hr2 : r2_I S) (hb : S 2 7 ≤ 200000 ∧ S 2 1 ≤ 2000000 ∧ S 4 (-1) ≤ 1000000 ∧ S 3 (-1) ≤ 10000000) (c1 : cL 9 10 N S) (c2 : cL 10 12 X S) (hN : nt_L S) (hVa : va_L S) (h64 : S 64 (-1) ≤ 16383) (hf0 : S 19 1 = f0) (hf : 0 ≤ f0 ∧ f0 ≤ 400) (hun : S 19 3 = un) (hu : 0 ≤ un ∧ un ≤ 16) (h7 : S 19 7 = p) (hp : 0 ≤ p ∧ p ≤ 20000 ∧ p ≤ S 31 (-1)) (l32 : S 32 (-1) = S 31 (-1)) (l33 : S 33 (-1) = S 31 (-1)) (hl : 64 ≤ S 31 (-1) ∧ S 31 (-1) ≤ 40000) (hs : si_L S) (hd : dN (S 35) (S 36) (S 37) (S 40) (S 19 9) (S 19 16)) (h19 : S 19 9 = sb) : wJ (pe_GA xs) wY0 (mS [3, 4, 5, 6, 7, 8, 9, 10, 15, 16, 17, 64, 65, 66, 67, 69, 70, 31, 32, 33, 35, 36, 37, 38, 39, 40, 41, 42, 43, 44, 45, 46, 58, 59]) (D + 546) t_X_compile ((pe_at t_X_compile.bl 0).getD (0, [])).2 [(0, (2, 0))] [] S (fun o Z => (un = 16 ∧ o = .inl (some (0, -8)) ∧ w_up S 0 1 0 = Z) ∨ (un < 16 ∧ ∃ (c : Nat) (A Z1 : wS) (v : Nat) (x : Int), rq_I T n N X (cB n (w_up S 0 1 0)) A c ∧ cQf f0 A Z1 v x ∧ cxF T n N X f0 p sb x ∧ tb_ag 2 1024 Z1 Z ∧ o = .inl (some (0, -1 - x))) ∨ (un < 16 ∧ ∃ (c : Nat) (A S1 : wS) (i2 : Nat) (I2 : List pz_I) (F2 : List pz_F) (t : Int), rq_I T n N X (cB n (w_up S 0 1 0)) A c ∧ cD T n N X f0 (fun R => R 0 0 [] 0 0 f0 [] [(-1, 0, [])]) (.inr (i2, I2, F2, t)) ∧ kq T n N X i2 = 0 ∧ (p + (I2.length : Int) + 2 ≤ 20000 ∧ sb + pz_s I2 ≤ 4000) ∧ cQ T n N X c f0 f0 0 i2 (I2 ++ [(0, 0, 0, f0)] ++ [(29, 0, 0, f0)]) F2 S1 ∧ cQg f0 0 0 A S1 ∧ kC f0 (I2 ++ [(0, 0, 0, f0)] ++ [(29, 0, 0, f0)]) F2 un p sb (w_up S1 63 11 (-1)) Z ∧ o = .inl (some (0, un)))) := by
  have h90 := hs.1
  refine wa_aload_n (n := 0) rfl ?_
  refine wb_gfi 0 rfl (wy_pr rfl) wt_0 wf_10_1 (v := n) (h01) (fun r101 => ?_)
  refine wa_istore_n (n := 1) rfl ?_
  refine wa_aload_n (n := 0) rfl ?_
  refine wa_iconst ?_
  refine wb_pfi 0 rfl (wy_pr rfl) wt_0 wf_10_1 (n := 1) rfl ⟨(by omega), (by omega)⟩ ?_
  refine wa_aload_n (n := 0) rfl ?_
  refine wb_gf4 0 rfl (wy_pr rfl) wt_0 wf_10_4 (v := 19) wl_0_4 ?_
  refine wb_gfi 19 rfl (wy_pr rfl) wt_19 wf_0_3 (v := un) ((w_up_slot (by decide)).trans (hun)) (fun r102 => ?_)
  refine wa_bipush (w_rg2 (by omega) (by omega)) ?_
  refine wa_icmplt (w_rg0 (by omega) (by omega)) (w_rg0 (by omega) (by omega)) ⟨_, rfl⟩ (fun c103 => ?_) (fun c103 => ?_)
  · skip
    refine wa_aload_n (n := 0) rfl ?_
    refine wb_gf4 0 rfl (wy_pr rfl) wt_0 wf_10_6 (v := 63) wl_0_6 ?_
    refine wa_aload_n (n := 0) rfl ?_
    refine wb_gf4 0 rfl (wy_pr rfl) wt_0 wf_10_0 (v := 1) wl_0_0 ?_
    refine wa_iload_n (n := 1) rfl ?_
    refine wa_cv 63 rfl (wy_pr rfl) wt_63 (M2 := mS [3, 4, 5, 6, 7, 8, 9, 10, 15, 16, 17, 64, 65, 66, 67, 69, 70]) rfl at_XP_read ⟨_, rfl⟩ rfl rfl ⟨trivial, (Or.inr ⟨wy_pr rfl, mS_no rfl⟩), trivial⟩ trivial (fun _ _ q => mS_sub (by decide) q) (cr_q (D := D) (S := (w_up S 0 1 0)) (T := T) (n := n) (N := N) (X := X) (f := f0) hx49 hx101 (w_CL_up hC (by decide)) (gI_up hI (by omega) (by omega) (by omega)) hn hT hCh (show wd_at (w_up S 0 1 0) 2 1024 from hW) (show wd_L (w_up S 0 1 0) 2 1024 from hL) (show wv_L (w_up S 0 1 0) 2 from hV) (show S 16 (-1) = S 15 (-1) ∧ S 17 (-1) = S 15 (-1) ∧ 64 ≤ S 15 (-1) ∧ S 15 (-1) ≤ 1048576 from ⟨hR.1, hR.2.1, hR.2.2.1, Int.le_trans hR.2.2.2 (by decide)⟩) h33 (show r2_I (w_up S 0 1 0) from hr2) hb (show cL 9 10 N (w_up S 0 1 0) from c1) (show cL 10 12 X (w_up S 0 1 0) from c2) hN hVa h64 ⟨hf0, hf, by show 0 ≤ S 19 3; omega, by show S 19 3 ≤ 1000; omega⟩ (by show 0 ≤ S 19 7 ∧ S 19 7 ≤ 20000; omega) (by show 0 ≤ S 19 9 ∧ S 19 9 ≤ 4000; omega)) (fun oq104 Sq104 hp105 q104 => ?_)
    rcases q104 with ⟨c, A, o1, Z1, hrq, hcU, ⟨ho1, rfl, rfl⟩ | ⟨v, ho1, rfl, htb⟩⟩
    · skip
      show wJ _ _ _ _ _ _ _ _ _ _
      refine wa_istore_n (n := 2) rfl ?_
      refine wa_iload_n (n := 2) rfl ?_
      refine wa_ifne (w_rg0 (by omega) (by omega)) ⟨_, rfl⟩ (fun c106 => ?_) (fun c106 => ?_)
      · skip
        exact absurd c106 (by omega)
      · skip
        refine wa_aload_n (n := 0) rfl ?_
        refine wb_gf4 0 rfl (wy_pr rfl) wt_0 wf_10_6 (v := 63) wl_0_6 ?_
        rcases hcU with ⟨i2, I2, F2, t, -, g2, g3, g4, S1, g5, g6, g7⟩ | ⟨v2, x, g1, -⟩
        rotate_left
        · rw [ho1] at g1; cases g1
        have fr := hrq.1.2.2.2.2.2.2.2.1
        have hw : wG = 1000000 := rfl
        have hSA : ∀ (j : Nat) (x : Int), 18 < j → j < 63 → A j x = S j x := fun j x j0 j1 => (fr j x (by omega) (by omega) (by omega)).trans (by (try unfold cB); repeat (rw [w_up_slot (by omega)]))
        have hS1 : ∀ (j : Nat) (x : Int), 18 < j → j < 63 → (j < 21 ∨ 29 < j) → S1 j x = S j x := fun j x j0 j1 j2 => (g7.1 j x (by omega) (by omega) (by omega) (by omega) (by omega) (by omega) (by omega)).trans (hSA j x j0 j1)
        have hl3 : (((I2 ++ [(0, 0, 0, f0)] ++ [(29, 0, 0, f0)]).length : Nat) : Int) = (I2.length : Int) + 2 := by rw [List.length_append, List.length_append]; show ((I2.length + 1 + 1 : Nat) : Int) = _; omega
        have hs3 := pz_s_2 I2 f0
        have gA7 := hSA 19 7 (by decide) (by decide)
        have gA9 := hSA 19 9 (by decide) (by decide)
        have n9 : nK f0 (I2 ++ [(0, 0, 0, f0)] ++ [(29, 0, 0, f0)]) := nK_ap (nK_ap (cD_nK hf.1 g2) (nK_1 (nzz (by show (0 : Int) ≠ -9; decide) ⟨by show (0 : Int) ≤ 0; decide, by show (0 : Int) ≠ 24; decide, fun _ => rfl, fun q => absurd q (by show ¬ ((0 : Int) = 27); decide)⟩))) (nK_1 (nzz (by show (0 : Int) ≠ -9; decide) ⟨by show (0 : Int) ≤ 29; decide, by show (29 : Int) ≠ 24; decide, fun _ => rfl, fun q => absurd q (by show ¬ ((29 : Int) = 27); decide)⟩))
        have r31 : ∀ j : Nat, 31 ≤ j → j ≤ 60 → S1 j = S j := fun j j0 j1 => funext fun x => hS1 j x (by omega) (by omega) (by omega)
        subst g6
        refine wa_cv 63 rfl (wy_pr rfl) wt_63 (M2 := mS [31, 32, 33, 35, 36, 37, 38, 39, 40, 41, 42, 43, 44, 45, 46, 58, 59]) rfl at_XP_commit ⟨_, rfl⟩ rfl rfl ⟨trivial, trivial, (Or.inr ⟨wy_pr rfl, mS_no rfl⟩), trivial⟩ trivial (fun _ _ q => mS_sub (by decide) q) (xm_w (d := D + 540) (un := un) (p := p) (sb := sb) g5 n9 ((hS1 19 3 (by decide) (by decide) (by decide)).trans hun) ⟨hu.1, by omega⟩ ((hS1 19 7 (by decide) (by decide) (by decide)).trans h7) ⟨hp.1, by omega, by rw [r31 31 (by decide) (by decide)]; exact hp.2.2⟩ (by rw [r31 31 (by decide) (by decide), r31 32 (by decide) (by decide)]; exact l32) (by rw [r31 31 (by decide) (by decide), r31 33 (by decide) (by decide)]; exact l33) (by rw [r31 31 (by decide) (by decide)]; exact hl) (si_L_ag hs (fun j x hj => hS1 j x (by omega) (by omega) (by omega))) (by rw [r31 35 (by decide) (by decide), r31 36 (by decide) (by decide), r31 37 (by decide) (by decide), r31 40 (by decide) (by decide), hS1 19 9 (by decide) (by decide) (by decide), hS1 19 16 (by decide) (by decide) (by decide)]; exact hd) ((hS1 19 9 (by decide) (by decide) (by decide)).trans h19) (by omega)) (fun oq107 Sq107 hp108 q107 => ?_)
        rcases q107 with ⟨rfl, hkc⟩
        show wJ _ _ _ _ _ _ _ _ _ _
        refine wa_goto ⟨_, rfl⟩ ?_
        refine wa_ireturn rfl ?_
        exact Or.inr (Or.inr ⟨by omega, c, A, S1, i2, I2, F2, t, hrq, g2, g3, ⟨by omega, by omega⟩, g5, g7, hkc, rfl⟩)
    · skip
      show wJ _ _ _ _ _ _ _ _ _ _
      rcases hcU with ⟨i2, I2, F2, t, g1, -⟩ | ⟨v2, x, g1, g2, g3⟩
      · rw [ho1] at g1; cases g1
      obtain ⟨S1, ⟨k1, k3⟩, k2⟩ := g2
      have kv := k2.1
      have kp := k2.2.2.2.1
      refine wa_istore_n (n := 2) rfl ?_
      refine wa_iload_n (n := 2) rfl ?_
      refine wa_ifne (w_rg0 (by omega) (by omega)) ⟨_, rfl⟩ (fun c109 => ?_) (fun c109 => ?_)
      · skip
        refine wa_iconst ?_
        refine wa_iload_n (n := 2) rfl ?_
        refine wa_isub ?_
        refine wa_fall ⟨_, rfl⟩ ?_
        refine wa_ireturn rfl ?_
        refine Or.inr (Or.inl ⟨by omega, c, A, Z1, v2, x, hrq, ⟨S1, ⟨k1, k3⟩, k2⟩, ?_, htb, by rw [kv]⟩)
        have fr := hrq.1.2.2.2.2.2.2.2.1
        have gA7 : A 19 7 = p := (fr 19 7 (by decide) (by decide) (by omega)).trans h7
        have gA9 : A 19 9 = sb := (fr 19 9 (by decide) (by decide) (by omega)).trans h19
        rw [gA7, gA9] at g3
        exact g3
      · skip
        exact absurd c109 (by omega)
  · skip
    refine wa_bipush (w_rg2 (by omega) (by omega)) ?_
    refine wa_ireturn rfl ?_
    exact Or.inl ⟨by omega, rfl, rfl⟩
end Wcz
