/-! PART av: the class's Reader reads a program. -/
section Wav
variable {xs : List (Nat × List Int32)} {M : Nat → Prop} {d : Nat} {A B C S Z : wS} {Q : wO → wS → Prop} {T : Int → Int} {n : Int} {N X : List (List Int)}
/-- the names, the texts behind i tokens -/
def NL (T : Int → Int) (n : Int) (N : List (List Int)) : Nat → List (List Int)
  | 0 => N
  | i + 1 => Nn T n (tp T n 0 i) (NL T n N i)
def XL (T : Int → Int) (n : Int) (X : List (List Int)) : Nat → List (List Int)
  | 0 => X
  | i + 1 => Xn T n (tp T n 0 i) (XL T n X i)
/-- the i-th token of a program stands in its rows -/
def tk2 (T : Int → Int) (n : Int) (N X : List (List Int)) (Z : wS) (i : Nat) : Prop := tp T n 0 i < n ∧ 0 ≤ tp T n 0 i ∧ Z 16 (i : Int) = tp T n 0 i ∧ Z 15 (i : Int) = kp T n (tp T n 0 i) (NL T n N i) (XL T n X i) ∧ Z 17 (i : Int) = vp T n (tp T n 0 i) (NL T n N i) (XL T n X i)
theorem tk2_rp {i : Nat} (g : rp_ag S Z) (hi : (i : Int) < S 14 3) (h : tk2 T n N X S i) : tk2 T n N X Z i := by
  obtain ⟨a1, a2, a3⟩ := g.2.2.2.2.2.1 (i : Int) (by omega) hi
  exact ⟨h.1, h.2.1, a2.trans h.2.2.1, a1.trans h.2.2.2.1, a3.trans h.2.2.2.2⟩
/-- i tokens have been read; pl is where the next one is looked for -/
def rl2_I (T : Int → Int) (n : Int) (N X : List (List Int)) (S Z : wS) (i : Nat) (pl : Int) : Prop := rp_ag S Z ∧ Z 14 3 = (i : Int) ∧ (∀ k : Nat, k < i → tk2 T n N X Z k ∧ (lx_tk T n 0 (tp T n 0 k) = 5 → k + 1 = i)) ∧ (pl = tp T n 0 i ∨ (pl = n ∧ ∃ k : Nat, k + 1 = i ∧ lx_tk T n 0 (tp T n 0 k) = 5)) ∧ (∀ k : Nat, k + 1 = i → lx_tk T n 0 (tp T n 0 k) = 5 → pl = n) ∧ ((i : Int) ≤ pl ∧ pl ≤ n) ∧ Z 2 7 ≤ S 2 7 + (i : Int) ∧ Z 2 1 ≤ S 2 1 + pl ∧ cL 9 10 (NL T n N i) Z ∧ cL 10 12 (XL T n X i) Z
/-- a program has been read into rows -/
def rq_I (T : Int → Int) (n : Int) (N X : List (List Int)) (S Z : wS) (c : Nat) : Prop := rp_ag S Z ∧ Z 14 3 = (c : Int) + 1 ∧ (∀ k : Nat, k < c → tk2 T n N X Z k ∧ (lx_tk T n 0 (tp T n 0 k) = 5 → k + 1 = c)) ∧ (Z 16 (c : Int) = n ∧ Z 15 (c : Int) = 0) ∧ (tp T n 0 c = n ∨ ∃ k : Nat, k + 1 = c ∧ lx_tk T n 0 (tp T n 0 k) = 5) ∧ (c : Int) ≤ n ∧ Z 2 7 ≤ S 2 7 + (c : Int) ∧ Z 2 1 ≤ S 2 1 + n ∧ cL 9 10 (NL T n N c) Z ∧ cL 10 12 (XL T n X c) Z
theorem rl2 (hx49 : pe_at (pe_GA xs).xs 49 = some (0, tx_49)) (hB : rd_B T n S) (h7 : S 14 7 = 2) (h8 : S 14 8 = 0) (h18 : S 18 (-1) = 60) (hW : wd_at S 2 1024) (hV : wv_L S 2) (h33 : 33 ≤ S 2 7) (hr2 : r2_I S) (hb : S 2 7 ≤ 200000 ∧ S 2 1 ≤ 2000000 ∧ S 4 (-1) ≤ 1000000 ∧ S 3 (-1) ≤ 10000000) (h3 : S 14 3 = 0) : ∀ (f i : Nat) (pl : Int) (Z : wS), (n - (i : Int)).toNat < f → rl2_I T n N X S Z i pl → wJ (pe_GA xs) wY0 (mS [3, 4, 5, 6, 7, 8, 9, 10, 15, 16, 17]) (d + 8) t_XR_read ((pe_at t_XR_read.bl 1).getD (0, [])).2 [(0, (2, 14)), (5, (0, pl)), (6, (0, (i : Int)))] [] Z (fun o Z => o = .inl none ∧ ∃ c : Nat, rq_I T n N X S Z c) := by
  intro f
  induction f with
  | zero => intro i pl Z h; exact absurd h (Nat.not_lt_zero _)
  | succ f ih =>
    intro i pl Z hf hz
    obtain ⟨g1, g2, g3, g4, g5, g6, g7, g8, gN, gX⟩ := hz
    have hn := hB.2.2.1
    have hBZ := rd_B_rp hB g1
    have fr := g1.2.2.2.2.2.2.2.1
    have mo := g1.1
    have hzW := g1.2.2.2.2.2.2.2.2.1
    have hzL := g1.2.2.2.2.2.2.2.2.2.1
    have hzV := g1.2.2.2.2.2.2.2.2.2.2.1
    have hzR := g1.2.2.2.2.2.2.2.2.2.2.2.1
    have hzI := g1.2.2.2.2.2.2.2.2.2.2.2.2.1
    have hzm := g1.2.2.2.2.2.2.2.2.2.2.2.2.2
    have z7 : Z 14 7 = 2 := (fr 14 7 (by decide) (by decide) (by omega)).trans h7
    have z8 : Z 14 8 = 0 := (fr 14 8 (by decide) (by decide) (by omega)).trans h8
    have z18 : Z 18 (-1) = 60 := (fr 18 (-1) (by decide) (by decide) (by omega)).trans h18
    have s0 : 0 ≤ S 2 7 ∧ S 2 7 ≤ S 4 (-1) := hW.1
    have s1 : 0 ≤ S 2 1 ∧ S 2 1 ≤ S 3 (-1) := hW.2.1
    have v1 : 0 ≤ S 2 10 := hV.1.1
    have v2 : 0 ≤ S 2 12 := hV.2.1.1
    have s00 : 0 ≤ S 2 7 ∧ 0 ≤ S 2 1 ∧ 0 ≤ S 14 3 ∧ 0 ≤ S 2 10 ∧ 0 ≤ S 2 12 := ⟨s0.1, s1.1, by omega, v1, v2⟩
    have cp' : (Z 4 (-1) ≤ S 4 (-1) ∨ Z 4 (-1) ≤ 2 * Z 2 7) ∧ (Z 3 (-1) ≤ S 3 (-1) ∨ Z 3 (-1) ≤ 2 * Z 2 1) ∧ (Z 15 (-1) ≤ S 15 (-1) ∨ Z 15 (-1) ≤ 2 * Z 14 3) := g1.2.2.2.2.2.2.1
    have hzb : rb_I 2 Z := by
      show Z 2 7 ≤ 400000 ∧ Z 2 1 ≤ 4000000 ∧ Z 4 (-1) ≤ 1000000 ∧ Z 3 (-1) ≤ 10000000 ∧ Z 14 3 ≤ 400000
      omega
    have z33 : 33 ≤ Z 2 7 := by omega
    have zr2 := r2_ag hW h33 hr2 g1
    refine wa_iload (n := 6) rfl ?_
    refine wa_aload_n (n := 0) rfl ?_
    refine wb_gfi 14 rfl (wy_pr rfl) wt_14 wf_6_6 (v := n) (hBZ.2.1) (fun r1 => ?_)
    refine wa_icmpge (w_rg0 (by omega) (by omega)) (w_rg0 (by omega) (by omega)) ⟨_, rfl⟩ (fun c2 => ?_) (fun c2 => ?_)
    · skip
      refine wa_aload_n (n := 0) rfl ?_
      refine wa_iconst ?_
      refine wa_aload_n (n := 0) rfl ?_
      refine wb_gfi 14 rfl (wy_pr rfl) wt_14 wf_6_6 (v := n) (hBZ.2.1) (fun r3 => ?_)
      refine wa_iconst ?_
      refine wa_cv 14 rfl (wy_pr rfl) wt_14 (M2 := mS [15, 16, 17]) rfl at_XR_add ⟨_, rfl⟩ rfl rfl ⟨(Or.inr ⟨wy_pr rfl, mS_no rfl⟩), trivial, trivial, trivial⟩ trivial (fun _ _ q => mS_sub (by decide) q) (ad_ok (S := Z) hzI ⟨by omega, by omega⟩ ⟨by omega, by omega⟩ ⟨by omega, by omega⟩ hzR) (fun oq6 Sq6 hp7 q6 => ?_)
      rcases q6 with ⟨rfl, ad4⟩
      show wJ _ _ _ _ _ _ _ _ _ _
      generalize Sq6 = Z5 at ad4 ⊢
      refine wa_return rfl ?_
      have hx := rp_ad hzW hzL hzV hzR (by omega) ad4
      have q3 := ad4.1
      have q4 := ad4.2.1
      rw [g2] at q3 q4
      have e0 : ∀ x : Int, Z5 2 x = Z 2 x := fun x => ad4.2.2.2.1 2 x (by decide) (by decide) (by decide) (by decide) (by decide) (Or.inl (by decide))
      refine ⟨rfl, i, rp_tr s00 g1 hx, q3, fun k hk => ⟨tk2_rp hx (by omega) (g3 k hk).1, (g3 k hk).2⟩, ⟨q4.2.1, q4.1⟩, ?_, by omega, by rw [e0]; exact g7, by rw [e0]; omega, cL_rp hzW gN hx (Or.inl ⟨rfl, rfl⟩) (e0 10), cL_rp hzW gX hx (Or.inr ⟨rfl, rfl⟩) (e0 12)⟩
      rcases g4 with h | ⟨-, h⟩
      · left; omega
      · exact Or.inr h
    · skip
      refine wa_iload (n := 5) rfl ?_
      refine wa_aload_n (n := 0) rfl ?_
      refine wb_gfi 14 rfl (wy_pr rfl) wt_14 wf_6_6 (v := n) (hBZ.2.1) (fun r8 => ?_)
      refine wa_icmpge (w_rg0 (by omega) (by omega)) (w_rg0 (by omega) (by omega)) ⟨_, rfl⟩ (fun c9 => ?_) (fun c9 => ?_)
      · skip
        refine wa_aload_n (n := 0) rfl ?_
        refine wa_iconst ?_
        refine wa_aload_n (n := 0) rfl ?_
        refine wb_gfi 14 rfl (wy_pr rfl) wt_14 wf_6_6 (v := n) (hBZ.2.1) (fun r10 => ?_)
        refine wa_iconst ?_
        refine wa_cv 14 rfl (wy_pr rfl) wt_14 (M2 := mS [15, 16, 17]) rfl at_XR_add ⟨_, rfl⟩ rfl rfl ⟨(Or.inr ⟨wy_pr rfl, mS_no rfl⟩), trivial, trivial, trivial⟩ trivial (fun _ _ q => mS_sub (by decide) q) (ad_ok (S := Z) hzI ⟨by omega, by omega⟩ ⟨by omega, by omega⟩ ⟨by omega, by omega⟩ hzR) (fun oq13 Sq13 hp14 q13 => ?_)
        rcases q13 with ⟨rfl, ad11⟩
        show wJ _ _ _ _ _ _ _ _ _ _
        generalize Sq13 = Z12 at ad11 ⊢
        refine wa_return rfl ?_
        have hx := rp_ad hzW hzL hzV hzR (by omega) ad11
        have q3 := ad11.1
        have q4 := ad11.2.1
        rw [g2] at q3 q4
        have e0 : ∀ x : Int, Z12 2 x = Z 2 x := fun x => ad11.2.2.2.1 2 x (by decide) (by decide) (by decide) (by decide) (by decide) (Or.inl (by decide))
        refine ⟨rfl, i, rp_tr s00 g1 hx, q3, fun k hk => ⟨tk2_rp hx (by omega) (g3 k hk).1, (g3 k hk).2⟩, ⟨q4.2.1, q4.1⟩, ?_, by omega, by rw [e0]; exact g7, by rw [e0]; omega, cL_rp hzW gN hx (Or.inl ⟨rfl, rfl⟩) (e0 10), cL_rp hzW gX hx (Or.inr ⟨rfl, rfl⟩) (e0 12)⟩
        rcases g4 with h | ⟨-, h⟩
        · left; omega
        · exact Or.inr h
      · skip
        refine wa_aload_n (n := 0) rfl ?_
        refine wa_aload_n (n := 0) rfl ?_
        refine wa_iload (n := 5) rfl ?_
        refine wa_cv 14 rfl (wy_pr rfl) wt_14 (M2 := mS [3, 4, 5, 6, 7, 8, 9, 10, 15, 16, 17]) rfl at_XR_addToken ⟨_, rfl⟩ rfl rfl ⟨(Or.inr ⟨wy_pr rfl, mS_no rfl⟩), trivial, trivial, trivial⟩ ⟨(Or.inr ⟨wy_pr rfl, mS_no rfl⟩), trivial⟩ (fun _ _ q => q) (at2 (S := Z) (N := NL T n N i) (X := XL T n X i) hx49 hBZ z7 z8 hzI hzW hzL hzV hzR hzb z33 zr2 gN gX ⟨by omega, by omega⟩ z18) (fun oq15 Sq15 hp16 q15 => ?_)
        rcases q15 with ⟨e, rfl, ht⟩
        show wJ _ _ _ _ _ _ _ _ _ _
        generalize Sq15 = Zt at ht ⊢
        have hBt := rd_B_rp hBZ ht.1
        have hle := lx_en_le (T := T) (n := n) (h := 0) (p := pl) (by omega)
        have hee := ht.2.2.2.1
        have hpl : pl = tp T n 0 i := by rcases g4 with q | ⟨q, -⟩ <;> omega
        have hen : pl ≤ e ∧ e ≤ n := by
          rw [hee]
          by_cases h5 : lx_tk T n 0 pl = 5
          · rw [if_pos h5]; omega
          · rw [if_neg h5]; exact ⟨hle.1, hle.2.1 h5⟩
        refine wa_cv 14 rfl (wy_pr rfl) wt_14 (M2 := fun _ => False) rfl at_XR_behindBlanks ⟨_, rfl⟩ rfl rfl ⟨(Or.inr ⟨wy_pr rfl, fun q => q⟩), trivial, trivial, trivial⟩ trivial (fun _ _ q => False.elim q) (bb_ok (S := Zt) (p := e) hBt ⟨by omega, by omega⟩) (fun oq17 Sq17 hp18 q17 => ?_)
        rcases q17 with ⟨rfl, rfl⟩
        show wJ _ _ _ _ _ _ _ _ _ _
        have hge := lx_bl_rg T n ((n - e).toNat + 1) e (by omega)
        have hge : e ≤ lx_go T n e ∧ lx_go T n e ≤ n := hge
        refine wa_istore (n := 5) rfl ?_
        refine wa_iinc rfl rfl ?_
        refine wa_goto ⟨_, rfl⟩ ?_
        refine wJ_S (ih (i + 1) (lx_go T n e) Zt (by omega) ?_) ⟨rfl, rfl, rfl, trivial⟩
        obtain ⟨t1, t2, ⟨t3, t4, t6⟩, t5, tN, tX, t7, t8⟩ := ht
        rw [g2] at t2 t3 t4 t6
        rw [hpl] at t3 t4 t6 tN tX
        have hgt : lx_tk T n 0 pl = 5 ∨ pl + 1 ≤ lx_go T n e := by
          by_cases h5 : lx_tk T n 0 pl = 5
          · exact Or.inl h5
          · right
            have : pl + 1 ≤ lx_en T n 0 pl := lx_en_gx (by omega) h5
            rw [if_neg h5] at hee; omega
        refine ⟨rp_tr s00 g1 t1, by omega, fun k hk => ?_, ?_, ?_, ⟨?_, hge.2⟩, ?_, ?_, tN, tX⟩
        · by_cases hki : k = i
          · subst hki
            exact ⟨⟨by omega, by omega, t3, t4, t6⟩, fun _ => rfl⟩
          · obtain ⟨q1, q2⟩ := g3 k (by omega)
            refine ⟨tk2_rp t1 (by omega) q1, fun q5 => ?_⟩
            have := g5 k (q2 q5) q5; omega
        · by_cases h5 : lx_tk T n 0 pl = 5
          · rw [if_pos h5] at hee; exact Or.inr ⟨by rw [hee, lx_go_n], i, rfl, by rw [← hpl]; exact h5⟩
          · rw [if_neg h5] at hee; left; rw [hee, hpl]; rfl
        · intro k hk q5
          have : k = i := by omega
          subst this
          rw [← hpl] at q5; rw [if_pos q5] at hee; rw [hee, lx_go_n]
        · rcases hgt with h5 | h5
          · rw [if_pos h5] at hee; omega
          · omega
        · omega
        · omega
theorem rdr_2 (hx49 : pe_at (pe_GA xs).xs 49 = some (0, tx_49)) (hn : 0 ≤ n ∧ n ≤ 65536 ∧ n ≤ S 1 (-1) ∧ S 1 (-1) ≤ 2147483647) (hT : ∀ i : Int, 0 ≤ i → i < n → S 1 i = T i) (hC : ∀ i : Int, 0 ≤ i → i < n → T i = 10 ∨ (32 ≤ T i ∧ T i ≤ 126)) (h18 : S 18 (-1) = 60) (hI : gI S) (hW : wd_at S 2 1024) (hL : wd_L S 2 1024) (hV : wv_L S 2) (hR : S 16 (-1) = S 15 (-1) ∧ S 17 (-1) = S 15 (-1) ∧ 64 ≤ S 15 (-1) ∧ S 15 (-1) ≤ 1048576) (h33 : 33 ≤ S 2 7) (hr2 : r2_I S) (hb : S 2 7 ≤ 200000 ∧ S 2 1 ≤ 2000000 ∧ S 4 (-1) ≤ 1000000 ∧ S 3 (-1) ≤ 10000000) (c1 : cL 9 10 N S) (c2 : cL 10 12 X S) : wJ (pe_GA xs) wY0 (mS [3, 4, 5, 6, 7, 8, 9, 10, 15, 16, 17]) (d + 8) t_XR_read ((pe_at t_XR_read.bl 0).getD (0, [])).2 [(0, (2, 14)), (1, (2, 1)), (2, (0, n)), (3, (2, 2)), (4, (0, 0))] [] S (fun o Z => o = .inl none ∧ ∃ c : Nat, rq_I T n N X (w_up (w_up (w_up (w_up (w_up (w_up S 14 5 1) 14 6 n) 14 7 2) 14 8 0) 14 3 0) 14 4 0) Z c) := by
  refine wa_aload_n (n := 0) rfl ?_
  refine wa_aload_n (n := 1) rfl ?_
  refine wb_pf6 14 rfl (wy_pr rfl) wt_14 wf_6_5 (n := 5) rfl (Or.inr (wy_pr rfl)) ?_
  refine wa_aload_n (n := 0) rfl ?_
  refine wa_iload_n (n := 2) rfl ?_
  refine wb_pfi 14 rfl (wy_pr rfl) wt_14 wf_6_6 (n := 6) rfl ⟨(by omega), (by omega)⟩ ?_
  refine wa_aload_n (n := 0) rfl ?_
  refine wa_aload_n (n := 3) rfl ?_
  refine wb_pfr 14 rfl (wy_pr rfl) wt_14 wf_6_7 (n := 7) rfl (Or.inr ⟨wy_pr rfl, by decide⟩) ?_
  refine wa_aload_n (n := 0) rfl ?_
  refine wa_iload (n := 4) rfl ?_
  refine wb_pfz 14 rfl (wy_pr rfl) wt_14 wf_6_8 (n := 8) rfl ⟨(by omega), (by omega)⟩ ?_
  refine wa_aload_n (n := 0) rfl ?_
  refine wa_iconst ?_
  refine wb_pfi 14 rfl (wy_pr rfl) wt_14 wf_6_3 (n := 3) rfl ⟨(by omega), (by omega)⟩ ?_
  refine wa_aload_n (n := 0) rfl ?_
  refine wa_iconst ?_
  refine wb_pfi 14 rfl (wy_pr rfl) wt_14 wf_6_4 (n := 4) rfl ⟨(by omega), (by omega)⟩ ?_
  refine wa_aload_n (n := 0) rfl ?_
  refine wa_iconst ?_
  have hB : rd_B T n (w_up (w_up (w_up (w_up (w_up (w_up S 14 5 1) 14 6 n) 14 7 2) 14 8 0) 14 3 0) 14 4 0) := ⟨rfl, rfl, ⟨hn.1, hn.2.1⟩, hn.2.2.1, hn.2.2.2, hT, hC⟩
  refine wa_cv 14 rfl (wy_pr rfl) wt_14 (M2 := fun _ => False) rfl at_XR_behindBlanks ⟨_, rfl⟩ rfl rfl ⟨(Or.inr ⟨wy_pr rfl, fun q => q⟩), (Or.inr ⟨wy_pr rfl, fun q => q⟩), trivial, (Or.inr ⟨wy_pr rfl, fun q => q⟩), trivial, trivial⟩ trivial (fun _ _ q => False.elim q) (bb_ok (S := (w_up (w_up (w_up (w_up (w_up (w_up S 14 5 1) 14 6 n) 14 7 2) 14 8 0) 14 3 0) 14 4 0)) (p := 0) hB ⟨by omega, by omega⟩) (fun oq1 Sq1 hp2 q1 => ?_)
  rcases q1 with ⟨rfl, rfl⟩
  show wJ _ _ _ _ _ _ _ _ _ _
  refine wa_istore (n := 5) rfl ?_
  refine wa_iconst ?_
  refine wa_istore (n := 6) rfl ?_
  refine wa_fall ⟨_, rfl⟩ ?_
  have hR6 : rd_L (w_up (w_up (w_up (w_up (w_up (w_up S 14 5 1) 14 6 n) 14 7 2) 14 8 0) 14 3 0) 14 4 0) := ⟨⟨by show (0 : Int) ≤ 0; omega, by show (0 : Int) ≤ S 15 (-1); omega⟩, hR⟩
  have hge := lx_bl_rg T n ((n - 0).toNat + 1) 0 hn.1
  have hge : 0 ≤ lx_go T n 0 ∧ lx_go T n 0 ≤ n := hge
  have hW6 : wd_at (w_up (w_up (w_up (w_up (w_up (w_up S 14 5 1) 14 6 n) 14 7 2) 14 8 0) 14 3 0) 14 4 0) 2 1024 := hW
  have hL6 : wd_L (w_up (w_up (w_up (w_up (w_up (w_up S 14 5 1) 14 6 n) 14 7 2) 14 8 0) 14 3 0) 14 4 0) 2 1024 := hL
  have hV6 : wv_L (w_up (w_up (w_up (w_up (w_up (w_up S 14 5 1) 14 6 n) 14 7 2) 14 8 0) 14 3 0) 14 4 0) 2 := hV
  have hr6 : r2_I (w_up (w_up (w_up (w_up (w_up (w_up S 14 5 1) 14 6 n) 14 7 2) 14 8 0) 14 3 0) 14 4 0) := hr2
  have k1 : cL 9 10 N (w_up (w_up (w_up (w_up (w_up (w_up S 14 5 1) 14 6 n) 14 7 2) 14 8 0) 14 3 0) 14 4 0) := c1
  have k2 : cL 10 12 X (w_up (w_up (w_up (w_up (w_up (w_up S 14 5 1) 14 6 n) 14 7 2) 14 8 0) 14 3 0) 14 4 0) := c2
  refine wJ_S (rl2 hx49 hB rfl rfl h18 hW6 hV6 h33 hr6 hb rfl (n.toNat + 1) 0 (lx_go T n 0) (w_up (w_up (w_up (w_up (w_up (w_up S 14 5 1) 14 6 n) 14 7 2) 14 8 0) 14 3 0) 14 4 0) (by omega) ⟨rp_rfl hW6 hL6 hV6 hR6 (gI_up (gI_up (gI_up (gI_up (gI_up (gI_up hI (by omega) (by omega) (by omega)) (by omega) (by omega) (by omega)) (by omega) (by omega) (by omega)) (by omega) (by omega) (by omega)) (by omega) (by omega) (by omega)) (by omega) (by omega) (by omega)), rfl, fun k hk => absurd hk (Nat.not_lt_zero _), Or.inl rfl, fun k hk => absurd hk (by omega), ⟨by omega, hge.2⟩, by omega, by omega, k1, k2⟩) ⟨rfl, rfl, rfl, trivial⟩
end Wav
