/-! PART bj: the Compiler's read. -/
section Wbj
variable {xs : List (Nat × List Int32)} {M : Nat → Prop} {d : Nat} {A B C S Z : wS} {Q : wO → wS → Prop} {T : Int → Int} {n : Int} {N X : List (List Int)} {c i : Nat} {f u w : Int} {I : List pz_I} {F : List pz_F}
theorem wdL_ag (h : wd_L S 2 1024) (e : ∀ x : Nat, x ≤ 10 → Z (2 + x) = S (2 + x)) : wd_L Z 2 1024 := by
  unfold wd_L at h ⊢
  rw [e 10 (by decide), e 3 (by decide), e 2 (by decide), e 4 (by decide), e 5 (by decide), e 6 (by decide), e 1 (by decide)]
  exact h
theorem wvL_ag (h : wv_L S 2) (e : ∀ x : Nat, x ≤ 10 → Z (2 + x) = S (2 + x)) : wv_L Z 2 := by
  have e0 : Z 2 = S 2 := e 0 (by decide)
  unfold wv_L at h ⊢
  rw [e 5 (by decide), e 7 (by decide), e 6 (by decide), e 8 (by decide), e0]
  exact h
theorem mkI_ag (h : mk_I S 2) (e : ∀ x : Nat, x ≤ 10 → Z (2 + x) = S (2 + x)) : mk_I Z 2 := by
  have e0 : Z 2 = S 2 := e 0 (by decide)
  unfold mk_I at h ⊢
  rw [e 9 (by decide), e0]
  exact h
/-- what readUnit ends with -/
def cU (T : Int → Int) (n : Int) (N X : List (List Int)) (c : Nat) (f : Int) (S : wS) (o : wO) (Z : wS) : Prop := (∃ (i2 : Nat) (I2 : List pz_I) (F2 : List pz_F) (t : Int), o = .inl none ∧ cD T n N X f (fun R => R 0 0 [] 0 0 f [] [(-1, 0, [])]) (.inr (i2, I2, F2, t)) ∧ kq T n N X i2 = 0 ∧ (S 19 7 + (I2.length : Int) + 2 ≤ 20000 ∧ S 19 9 + pz_s I2 ≤ 4000) ∧ ∃ S1 : wS, cQ T n N X c f f 0 i2 (I2 ++ [(0, 0, 0, f)] ++ [(29, 0, 0, f)]) F2 S1 ∧ Z = w_up S1 63 11 (-1) ∧ cQg f 0 0 S S1) ∨ (∃ (v : Nat) (x : Int), o = .inr v ∧ cQf f S Z v x ∧ ((400 ≤ f ∧ ((kq T n N X 0 = 0 ∨ pz_bs (kq T n N X 0)) ∧ x = 7 + 16 * tp T n 0 0 ∨ (kq T n N X 0 ≠ 0 ∧ ¬ pz_bs (kq T n N X 0)) ∧ x = 1 + 16 * tp T n 0 0)) ∨ (f < 400 ∧ cD T n N X f (fun R => R 0 0 [] 0 0 f [] [(-1, 0, [])]) (.inl x)) ∨ (f < 400 ∧ ∃ (i2 : Nat) (I2 : List pz_I) (F2 : List pz_F) (t : Int), cD T n N X f (fun R => R 0 0 [] 0 0 f [] [(-1, 0, [])]) (.inr (i2, I2, F2, t)) ∧ ((kq T n N X i2 ≠ 0 ∧ x = 1 + 16 * tp T n 0 i2) ∨ (kq T n N X i2 = 0 ∧ ¬ (S 19 7 + (I2.length : Int) + 2 ≤ 20000 ∧ S 19 9 + pz_s I2 ≤ 4000) ∧ x = 7 + 16 * tp T n 0 i2)))))
theorem cr_q {D : Nat} (hx49 : pe_at (pe_GA xs).xs 49 = some (0, tx_49)) (hx101 : pe_at (pe_GA xs).xs 101 = some (1, tx_101)) (hC : w_CL S) (hI : gI S) (hn : 0 ≤ n ∧ n ≤ 8176 ∧ n ≤ S 1 (-1) ∧ S 1 (-1) ≤ 2147483647) (hT : ∀ i : Int, 0 ≤ i → i < n → S 1 i = T i) (hCh : ∀ i : Int, 0 ≤ i → i < n → T i = 10 ∨ (32 ≤ T i ∧ T i ≤ 126)) (hW : wd_at S 2 1024) (hL : wd_L S 2 1024) (hV : wv_L S 2) (hR : S 16 (-1) = S 15 (-1) ∧ S 17 (-1) = S 15 (-1) ∧ 64 ≤ S 15 (-1) ∧ S 15 (-1) ≤ 1048576) (h33 : 33 ≤ S 2 7) (hr2 : r2_I S) (hb : S 2 7 ≤ 200000 ∧ S 2 1 ≤ 2000000 ∧ S 4 (-1) ≤ 1000000 ∧ S 3 (-1) ≤ 10000000) (c1 : cL 9 10 N S) (c2 : cL 10 12 X S) (hN : nt_L S) (hVa : va_L S) (h64 : S 64 (-1) ≤ 16383) (h19 : S 19 1 = f ∧ (0 ≤ f ∧ f ≤ 400) ∧ 0 ≤ S 19 3 ∧ S 19 3 ≤ 1000) (h7 : 0 ≤ S 19 7 ∧ S 19 7 ≤ 20000) (h9 : 0 ≤ S 19 9 ∧ S 19 9 ≤ 4000) : wJ (pe_GA xs) wY0 (mS [3, 4, 5, 6, 7, 8, 9, 10, 15, 16, 17, 64, 65, 66, 67, 69, 70]) (D + 545) t_XP_read ((pe_at t_XP_read.bl 0).getD (0, [])).2 [(0, (2, 63)), (1, (2, 1)), (2, (0, n))] [] S (fun o Z => ∃ (c : Nat) (A : wS) (o1 : wO) (Z1 : wS), rq_I T n N X (w_up (w_up (w_up (w_up (w_up (w_up (w_up (w_up (w_up (w_up (w_up (w_up (w_up (w_up (w_up (w_up S 63 7 0) 63 8 0) 63 10 0) 63 13 0) 63 15 0) 63 17 0) 11 0 (S 2 1)) 11 1 (S 2 7)) 11 2 (S 2 10)) 11 3 (S 2 12)) 14 5 1) 14 6 n) 14 7 2) 14 8 0) 14 3 0) 14 4 0) A c ∧ cU T n N X c f A o1 Z1 ∧ ((o1 = .inl none ∧ o = .inl (some (0, 0)) ∧ Z = Z1) ∨ (∃ v : Nat, o1 = .inr v ∧ o = .inl (some (0, Z1 63 17)) ∧ tb_ag 2 1024 Z1 Z))) := by
  have hw1 := hW.1
  have hw2 := hW.2.1
  have hn1 := hV.1
  obtain ⟨n0, n65, n66, n67, n64, n8⟩ := hN
  obtain ⟨v0, v1, v2, v3, v4⟩ := hVa
  refine wa_aload_n (n := 0) rfl ?_
  refine wa_iconst ?_
  refine wb_pfi 63 rfl (wy_pr rfl) wt_63 wf_1_7 (n := 7) rfl ⟨(by omega), (by omega)⟩ ?_
  refine wa_aload_n (n := 0) rfl ?_
  refine wa_iconst ?_
  refine wb_pfi 63 rfl (wy_pr rfl) wt_63 wf_1_8 (n := 8) rfl ⟨(by omega), (by omega)⟩ ?_
  refine wa_aload_n (n := 0) rfl ?_
  refine wa_iconst ?_
  refine wb_pfi 63 rfl (wy_pr rfl) wt_63 wf_1_10 (n := 10) rfl ⟨(by omega), (by omega)⟩ ?_
  refine wa_aload_n (n := 0) rfl ?_
  refine wa_iconst ?_
  refine wb_pfi 63 rfl (wy_pr rfl) wt_63 wf_1_13 (n := 13) rfl ⟨(by omega), (by omega)⟩ ?_
  refine wa_aload_n (n := 0) rfl ?_
  refine wa_iconst ?_
  refine wb_pfi 63 rfl (wy_pr rfl) wt_63 wf_1_15 (n := 15) rfl ⟨(by omega), (by omega)⟩ ?_
  refine wa_aload_n (n := 0) rfl ?_
  refine wa_iconst ?_
  refine wb_pfi 63 rfl (wy_pr rfl) wt_63 wf_1_17 (n := 17) rfl ⟨(by omega), (by omega)⟩ ?_
  refine wa_aload_n (n := 0) rfl ?_
  refine wb_gf4 63 rfl (wy_pr rfl) wt_63 wf_1_1 (v := 2) wl_63_1 ?_
  refine wa_cv 2 rfl (wy_pr rfl) wt_2 (M2 := fun _ => False) rfl at_XW_mark ⟨_, rfl⟩ rfl rfl ⟨(Or.inr ⟨wy_pr rfl, fun q => q⟩), (Or.inr ⟨wy_pr rfl, fun q => q⟩), trivial, trivial⟩ trivial (fun _ _ q => False.elim q) ?_ (fun _ _ _ q => q)
  refine wa_aload_n (n := 0) rfl ?_
  refine wb_gf4 2 rfl (wy_pr rfl) wt_2 wf_9_13 (v := 11) wl_2_13 ?_
  refine wa_iconst ?_
  refine wa_aload_n (n := 0) rfl ?_
  refine wb_gfi 2 rfl (wy_pr rfl) wt_2 wf_9_1 (v := (S 2 1)) ((w_up_slot (by decide)).trans ((w_up_slot (by decide)).trans ((w_up_slot (by decide)).trans ((w_up_slot (by decide)).trans ((w_up_slot (by decide)).trans (w_up_slot (by decide))))))) (fun r101 => ?_)
  refine wb_iast 11 rfl (wy_pr rfl) wt_11 (n := 4) ((w_up_slot (by decide)).trans ((w_up_slot (by decide)).trans ((w_up_slot (by decide)).trans ((w_up_slot (by decide)).trans ((w_up_slot (by decide)).trans ((w_up_slot (by decide)).trans ((cl_11 hC)))))))) (by omega) (by omega) ⟨(by omega), (by omega)⟩ ?_
  refine wa_aload_n (n := 0) rfl ?_
  refine wb_gf4 2 rfl (wy_pr rfl) wt_2 wf_9_13 (v := 11) wl_2_13 ?_
  refine wa_iconst ?_
  refine wa_aload_n (n := 0) rfl ?_
  refine wb_gfi 2 rfl (wy_pr rfl) wt_2 wf_9_7 (v := (S 2 7)) ((w_up_slot (by decide)).trans ((w_up_slot (by decide)).trans ((w_up_slot (by decide)).trans ((w_up_slot (by decide)).trans ((w_up_slot (by decide)).trans ((w_up_slot (by decide)).trans (w_up_slot (by decide)))))))) (fun r102 => ?_)
  refine wb_iast 11 rfl (wy_pr rfl) wt_11 (n := 4) ((w_up_at (by decide)).trans ((w_up_slot (by decide)).trans ((w_up_slot (by decide)).trans ((w_up_slot (by decide)).trans ((w_up_slot (by decide)).trans ((w_up_slot (by decide)).trans ((w_up_slot (by decide)).trans ((cl_11 hC))))))))) (by omega) (by omega) ⟨(by omega), (by omega)⟩ ?_
  refine wa_aload_n (n := 0) rfl ?_
  refine wb_gf4 2 rfl (wy_pr rfl) wt_2 wf_9_13 (v := 11) wl_2_13 ?_
  refine wa_iconst ?_
  refine wa_aload_n (n := 0) rfl ?_
  refine wb_gfi 2 rfl (wy_pr rfl) wt_2 wf_9_10 (v := (S 2 10)) ((w_up_slot (by decide)).trans ((w_up_slot (by decide)).trans ((w_up_slot (by decide)).trans ((w_up_slot (by decide)).trans ((w_up_slot (by decide)).trans ((w_up_slot (by decide)).trans ((w_up_slot (by decide)).trans (w_up_slot (by decide))))))))) (fun r103 => ?_)
  refine wb_iast 11 rfl (wy_pr rfl) wt_11 (n := 4) ((w_up_at (by decide)).trans ((w_up_at (by decide)).trans ((w_up_slot (by decide)).trans ((w_up_slot (by decide)).trans ((w_up_slot (by decide)).trans ((w_up_slot (by decide)).trans ((w_up_slot (by decide)).trans ((w_up_slot (by decide)).trans ((cl_11 hC)))))))))) (by omega) (by omega) ⟨(by omega), (by omega)⟩ ?_
  refine wa_aload_n (n := 0) rfl ?_
  refine wb_gf4 2 rfl (wy_pr rfl) wt_2 wf_9_13 (v := 11) wl_2_13 ?_
  refine wa_iconst ?_
  refine wa_aload_n (n := 0) rfl ?_
  refine wb_gfi 2 rfl (wy_pr rfl) wt_2 wf_9_12 (v := (S 2 12)) ((w_up_slot (by decide)).trans ((w_up_slot (by decide)).trans ((w_up_slot (by decide)).trans ((w_up_slot (by decide)).trans ((w_up_slot (by decide)).trans ((w_up_slot (by decide)).trans ((w_up_slot (by decide)).trans ((w_up_slot (by decide)).trans (w_up_slot (by decide)))))))))) (fun r104 => ?_)
  refine wb_iast 11 rfl (wy_pr rfl) wt_11 (n := 4) ((w_up_at (by decide)).trans ((w_up_at (by decide)).trans ((w_up_at (by decide)).trans ((w_up_slot (by decide)).trans ((w_up_slot (by decide)).trans ((w_up_slot (by decide)).trans ((w_up_slot (by decide)).trans ((w_up_slot (by decide)).trans ((w_up_slot (by decide)).trans ((cl_11 hC))))))))))) (by omega) (by omega) ⟨(by omega), (by omega)⟩ ?_
  refine wa_return rfl ?_
  show wJ _ _ _ _ _ _ _ _ _ _
  refine wa_aload_n (n := 0) rfl ?_
  refine wb_gf4 63 rfl (wy_pr rfl) wt_63 wf_1_0 (v := 14) wl_63_0 ?_
  refine wa_aload_n (n := 1) rfl ?_
  refine wa_iload_n (n := 2) rfl ?_
  refine wa_aload_n (n := 0) rfl ?_
  refine wb_gf4 63 rfl (wy_pr rfl) wt_63 wf_1_1 (v := 2) wl_63_1 ?_
  refine wa_iconst ?_
  have hrr := rdr_2 (xs := xs) (d := D + 536) (S := (w_up (w_up (w_up (w_up (w_up (w_up (w_up (w_up (w_up (w_up S 63 7 0) 63 8 0) 63 10 0) 63 13 0) 63 15 0) 63 17 0) 11 0 (S 2 1)) 11 1 (S 2 7)) 11 2 (S 2 10)) 11 3 (S 2 12))) (T := T) (n := n) (N := N) (X := X) hx49 ⟨hn.1, by omega, hn.2.2⟩ hT hCh (show (w_up (w_up (w_up (w_up (w_up (w_up (w_up (w_up (w_up (w_up S 63 7 0) 63 8 0) 63 10 0) 63 13 0) 63 15 0) 63 17 0) 11 0 (S 2 1)) 11 1 (S 2 7)) 11 2 (S 2 10)) 11 3 (S 2 12)) 18 (-1) = 60 from cl_18 (S := S) hC) (gI_up (gI_up (gI_up (gI_up (gI_up (gI_up (gI_up (gI_up (gI_up (gI_up hI (by omega) (by omega) (by omega)) (by omega) (by omega) (by omega)) (by omega) (by omega) (by omega)) (by omega) (by omega) (by omega)) (by omega) (by omega) (by omega)) (by omega) (by omega) (by omega)) (by omega) (by omega) (by omega)) (by omega) (by omega) (by omega)) (by omega) (by omega) (by omega)) (by omega) (by omega) (by omega)) (show wd_at (w_up (w_up (w_up (w_up (w_up (w_up (w_up (w_up (w_up (w_up S 63 7 0) 63 8 0) 63 10 0) 63 13 0) 63 15 0) 63 17 0) 11 0 (S 2 1)) 11 1 (S 2 7)) 11 2 (S 2 10)) 11 3 (S 2 12)) 2 1024 from hW) (show wd_L (w_up (w_up (w_up (w_up (w_up (w_up (w_up (w_up (w_up (w_up S 63 7 0) 63 8 0) 63 10 0) 63 13 0) 63 15 0) 63 17 0) 11 0 (S 2 1)) 11 1 (S 2 7)) 11 2 (S 2 10)) 11 3 (S 2 12)) 2 1024 from hL) (show wv_L (w_up (w_up (w_up (w_up (w_up (w_up (w_up (w_up (w_up (w_up S 63 7 0) 63 8 0) 63 10 0) 63 13 0) 63 15 0) 63 17 0) 11 0 (S 2 1)) 11 1 (S 2 7)) 11 2 (S 2 10)) 11 3 (S 2 12)) 2 from hV) hR h33 (show r2_I (w_up (w_up (w_up (w_up (w_up (w_up (w_up (w_up (w_up (w_up S 63 7 0) 63 8 0) 63 10 0) 63 13 0) 63 15 0) 63 17 0) 11 0 (S 2 1)) 11 1 (S 2 7)) 11 2 (S 2 10)) 11 3 (S 2 12)) from hr2) hb (show cL 9 10 N (w_up (w_up (w_up (w_up (w_up (w_up (w_up (w_up (w_up (w_up S 63 7 0) 63 8 0) 63 10 0) 63 13 0) 63 15 0) 63 17 0) 11 0 (S 2 1)) 11 1 (S 2 7)) 11 2 (S 2 10)) 11 3 (S 2 12)) from c1) (show cL 10 12 X (w_up (w_up (w_up (w_up (w_up (w_up (w_up (w_up (w_up (w_up S 63 7 0) 63 8 0) 63 10 0) 63 13 0) 63 15 0) 63 17 0) 11 0 (S 2 1)) 11 1 (S 2 7)) 11 2 (S 2 10)) 11 3 (S 2 12)) from c2)
  refine wa_cv 14 rfl (wy_pr rfl) wt_14 (M2 := mS [3, 4, 5, 6, 7, 8, 9, 10, 15, 16, 17]) rfl at_XR_read ⟨_, rfl⟩ rfl rfl ⟨(Or.inr ⟨wy_pr rfl, mS_no rfl⟩), (Or.inr ⟨wy_pr rfl, mS_no rfl⟩), trivial, trivial⟩ trivial (fun _ _ q => mS_sub (by decide) q) (hrr) (fun oq105 Sq105 hp106 q105 => ?_)
  rcases q105 with ⟨rfl, c, hrh⟩
  generalize Sq105 = Zr at hrh ⊢
  show wJ _ _ _ _ _ _ _ _ _ _
  have hr := hrh.1
  have fr := hr.2.2.2.2.2.2.2.1
  have h0 : cQ0 T n N X c f Zr := cQ0_r hrh hn.2.1 (w_up_same _ _ _ _) (w_CL_up (w_CL_up (w_CL_up (w_CL_up (w_CL_up (w_CL_up (w_CL_up (w_CL_up (w_CL_up (w_CL_up (w_CL_up (w_CL_up (w_CL_up (w_CL_up (w_CL_up (w_CL_up hC (by decide)) (by decide)) (by decide)) (by decide)) (by decide)) (by decide)) (by decide)) (by decide)) (by decide)) (by decide)) (by decide)) (by decide)) (by decide)) (by decide)) (by decide)) (by decide)) ⟨⟨by show (0 : Int) ≤ 0; omega, by show (0 : Int) ≤ S 64 (-1); omega⟩, n65, n66, n67, n64, n8⟩ ⟨rfl, rfl, rfl, rfl, rfl⟩ h19 ⟨v0, ⟨by show (0 : Int) ≤ 0; omega, by show (0 : Int) ≤ S 69 (-1); omega⟩, v2, v3, v4⟩ h64 (hr.2.2.2.2.2.2.2.2.2.1.1.trans hL.1.symm)
  have f7 : Zr 19 7 = S 19 7 := fr 19 7 (by decide) (by decide) (by omega)
  have f9 : Zr 19 9 = S 19 9 := fr 19 9 (by decide) (by decide) (by omega)
  refine wa_aload_n (n := 0) rfl ?_
  refine wa_cx (M2 := mS [64, 65, 66, 67, 69, 70]) 63 rfl (wy_pr rfl) wt_63 rfl at_XP_readUnit ⟨_, rfl⟩ rfl rfl ⟨(Or.inr ⟨wy_pr rfl, mS_no rfl⟩), (Or.inr ⟨wy_pr rfl, mS_no rfl⟩), trivial, trivial⟩ trivial (fun _ _ q => mS_sub (by decide) q) (un_q (D := D + 4) (S := Zr) hx101 h0 (by rw [f7]; exact h7) (by rw [f9]; exact h9)) (fun o Zf hp q => ?_)
  have hU : cU T n N X c f Zr o Zf := q
  rcases q with ⟨i2, I2, F2, t, rfl, q⟩ | ⟨v, x, rfl, q, -⟩
  · show wJ _ _ _ _ _ _ _ _ _ _
    refine wa_goto ⟨_, rfl⟩ ?_
    refine wa_iconst ?_
    refine wa_ireturn rfl ?_
    exact ⟨c, Zr, _, Zf, hrh, hU, Or.inl ⟨rfl, rfl, rfl⟩⟩
  · obtain ⟨S1, ⟨k1, k3⟩, k2⟩ := q
    have ez : ∀ x : Nat, x ≤ 10 → Zf (2 + x) = Zr (2 + x) := fun x hx => funext fun y => (k2.2.1 (2 + x) y (by omega) (by have : wG = 1000000 := rfl; omega) (by omega)).trans (k1.1 (2 + x) y (by omega) (by have : wG = 1000000 := rfl; omega) (by omega) (by omega) (by omega) (by omega) (by omega))
    have hmk : mk_I Zr 2 := by
      have g0 : Zr 11 0 = S 2 1 := (fr 11 0 (by decide) (by decide) (by omega)).trans rfl
      have g1 : Zr 11 1 = S 2 7 := (fr 11 1 (by decide) (by decide) (by omega)).trans rfl
      have g2 : Zr 11 2 = S 2 10 := (fr 11 2 (by decide) (by decide) (by omega)).trans rfl
      have g3 : Zr 11 3 = S 2 12 := (fr 11 3 (by decide) (by decide) (by omega)).trans rfl
      have g4 : Zr 11 (-1) = 4 := (fr 11 (-1) (by decide) (by decide) (by omega)).trans (show S 11 (-1) = 4 from cl_11 (S := S) hC)
      have b1 : S 2 7 ≤ Zr 2 7 := hr.1.1
      have b2 : S 2 1 ≤ Zr 2 1 := hr.1.2.1
      have b3 : S 2 10 ≤ Zr 2 10 := hr.1.2.2.2.1
      have b4 : S 2 12 ≤ Zr 2 12 := hr.1.2.2.2.2
      have d1 : 0 ≤ S 2 10 := by rw [c1.1]; omega
      have d2 : 0 ≤ S 2 12 := by rw [c2.1]; omega
      have a1 : 0 ≤ S 2 7 := hw1.1
      have a2 : 0 ≤ S 2 1 := hw2.1
      exact ⟨g4, ⟨by show 0 ≤ Zr 11 0; omega, by show Zr 11 0 ≤ Zr 2 1; omega⟩, ⟨by show 0 ≤ Zr 11 1; omega, by show Zr 11 1 ≤ Zr 2 7; omega⟩, ⟨by show 0 ≤ Zr 11 2; omega, by show Zr 11 2 ≤ Zr 2 10; omega⟩, ⟨by show 0 ≤ Zr 11 3; omega, by show Zr 11 3 ≤ Zr 2 12; omega⟩⟩
    refine ⟨17, _, _, k2.2.2.2.2.2, k2.2.2.2.2.1, rfl, ⟨_, rfl⟩, ?_⟩
    refine wa_astore_n (n := 3) rfl ?_
    refine wa_aload_n (n := 0) rfl ?_
    refine wb_gf4 63 rfl (wy_pr rfl) wt_63 wf_1_1 (v := 2) wl_63_1 ?_
    refine wa_cv 2 rfl (wy_pr rfl) wt_2 (M2 := fun _ => False) rfl at_XW_takeBack ⟨_, rfl⟩ rfl rfl ⟨Or.inr ⟨k2.2.2.2.2.2, fun q => q⟩, (Or.inr ⟨wy_pr rfl, fun q => q⟩), (Or.inr ⟨wy_pr rfl, fun q => q⟩), trivial, trivial⟩ trivial (fun _ _ q => False.elim q) (tb_2 (d := D + 543) (S := Zf) (wd_at_ag hr.2.2.2.2.2.2.2.2.1 ez) (wdL_ag hr.2.2.2.2.2.2.2.2.2.1 ez) (wvL_ag hr.2.2.2.2.2.2.2.2.2.2.1 ez) (mkI_ag hmk ez)) (fun o2 Zt hp2 q2 => ?_)
    obtain ⟨rfl, ht⟩ := q2
    show wJ _ _ _ _ _ _ _ _ _ _
    have e17 : Zt 63 17 = Zf 63 17 := ht.2.2.2.2 63 17 (by omega)
    refine wa_aload_n (n := 0) rfl ?_
    refine wb_gfi 63 rfl (wy_pr rfl) wt_63 wf_1_17 (v := Zf 63 17) e17 (fun r0 => ?_)
    refine wa_ireturn rfl ?_
    exact ⟨c, Zr, _, Zf, hrh, hU, Or.inr ⟨v, rfl, rfl, ht⟩⟩
end Wbj
