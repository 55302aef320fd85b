/-! PART 9g: the class's Reader reads a host's text. -/
section W9g
variable {xs : List (Nat × List Int32)} {M : Nat → Prop} {d : Nat} {A B C S Z : wS} {Q : wO → wS → Prop} {T : Int → Int} {n : Int}
/-- the places of the tokens, one after the other -/
def tp (T : Int → Int) (n h : Int) : Nat → Int
  | 0 => lx_go T n 0
  | i + 1 => lx_go T n (lx_en T n h (tp T n h i))
/-- the i-th token of a host's text stands in its rows -/
def tk_ok (w : Nat) (T : Int → Int) (n : Int) (Z : wS) (i : Nat) : Prop := tp T n 1 i < n ∧ 0 ≤ tp T n 1 i ∧ Z 16 (i : Int) = tp T n 1 i ∧ Z 15 (i : Int) = kh T n (tp T n 1 i) ∧ (lx_tk T n 1 (tp T n 1 i) = 1 → (0 ≤ Z 17 (i : Int) ∧ Z 17 (i : Int) < Z w 7) ∧ wq (Z (w + 1)) (Z (w + 2)) (Z (w + 3)) T (tp T n 1 i) (lx_en T n 1 (tp T n 1 i) - tp T n 1 i) (Z 17 (i : Int)))
theorem tk_rx {w : Nat} {H : Int} {i : Nat} (h1 : wd_at S w H) (g : rx_ag w H S Z) (hi : (i : Int) < S 14 3) (h : tk_ok w T n S i) : tk_ok w T n Z i := by
  obtain ⟨a1, a2, a3⟩ := g.2.2.2.2.1 (i : Int) (by omega) hi
  have hg := g.1.1
  refine ⟨h.1, h.2.1, a2.trans h.2.2.1, a1.trans h.2.2.2.1, fun q => ?_⟩
  obtain ⟨b1, b2⟩ := h.2.2.2.2 q
  rw [a3]
  exact ⟨⟨b1.1, by omega⟩, wq_rx h1 g ⟨b1.1, b1.2⟩ b2⟩
/-- every word that has come is the word of a name among the first c tokens -/
def wTo (w : Nat) (T : Int → Int) (n : Int) (S Z : wS) (c : Nat) : Prop := ∀ k : Int, S w 7 ≤ k → k < Z w 7 → ∃ j : Nat, j < c ∧ lx_tk T n 1 (tp T n 1 j) = 1 ∧ Z 17 (j : Int) = k
theorem wTo_x {w c : Nat} {H : Int} {A B C : wS} (h : wTo w T n A B c) (x : rx_ag w H B C) (e7 : C w 7 = B w 7) (hc : (c : Int) ≤ B 14 3) : wTo w T n A C c := fun k k0 k1 => by
  rw [e7] at k1
  obtain ⟨j, j0, j1, j2⟩ := h k k0 k1
  exact ⟨j, j0, j1, (x.2.2.2.2.1 j (by omega) (by omega)).2.2.trans j2⟩
/-- i tokens have been read; pl is where the next one is looked for -/
def rl_I (w : Nat) (H : Int) (T : Int → Int) (n : Int) (S Z : wS) (i : Nat) (pl : Int) : Prop := rx_ag w H S Z ∧ Z 14 3 = (i : Int) ∧ (∀ k : Nat, k < i → tk_ok w T n Z k ∧ (lx_tk T n 1 (tp T n 1 k) = 5 → k + 1 = i)) ∧ (pl = tp T n 1 i ∨ (pl = n ∧ ∃ k : Nat, k + 1 = i ∧ lx_tk T n 1 (tp T n 1 k) = 5)) ∧ (∀ k : Nat, k + 1 = i → lx_tk T n 1 (tp T n 1 k) = 5 → pl = n) ∧ ((i : Int) ≤ pl ∧ pl ≤ n) ∧ (Z w 7 ≤ S w 7 + (i : Int) ∧ wTo w T n S Z i) ∧ Z w 1 ≤ S w 1 + pl
/-- a host's text has been read into rows -/
def rh_I (w : Nat) (H : Int) (T : Int → Int) (n : Int) (S Z : wS) (c : Nat) : Prop := rx_ag w H S Z ∧ Z 14 3 = (c : Int) + 1 ∧ (∀ k : Nat, k < c → tk_ok w T n Z k ∧ (lx_tk T n 1 (tp T n 1 k) = 5 → k + 1 = c)) ∧ (Z 16 (c : Int) = n ∧ Z 15 (c : Int) = 0) ∧ (tp T n 1 c = n ∨ ∃ k : Nat, k + 1 = c ∧ lx_tk T n 1 (tp T n 1 k) = 5) ∧ (c : Int) ≤ n ∧ (Z w 7 ≤ S w 7 + (c : Int) ∧ wTo w T n S Z c) ∧ Z w 1 ≤ S w 1 + n
theorem lx_nm_gt {T : Int → Int} {n p : Int} (h : p < n) (hl : lx_le (T p) = true) : p + 1 ≤ lx_nm T n ((n - p).toNat + 1) p := by
  rw [lx_nm_s, lx_at_in h, if_pos (by rw [hl]; rfl)]
  exact (lx_nm_le T n _ (p + 1) (by omega)).1
theorem lx_nu_gt {T : Int → Int} {n p : Int} (h : p < n) (hl : lx_di (T p) = true) : p + 1 ≤ (lx_nu T n p ((n - p).toNat + 1) p 0).1 := by
  rw [lx_nu_s, lx_at_in h, if_pos hl]
  exact (lx_nu_le T n p _ (p + 1) _ (by omega)).1
theorem lx_en_gx {T : Int → Int} {n h p : Int} (hp : p < n) (h5 : lx_tk T n h p ≠ 5) : p + 1 ≤ lx_en T n h p := by
  unfold lx_en
  rw [if_neg (by omega)]
  by_cases h1 : lx_le (T p) = true
  · rw [if_pos h1]; exact lx_nm_gt hp h1
  · rw [if_neg h1]
    by_cases h2 : lx_di (T p) = true
    · rw [if_pos h2]; exact lx_nu_gt hp h2
    · rw [if_neg h2]
      by_cases h3 : T p = 34
      · rw [if_pos h3]
        have := (lx_tx_le T n ((n - p).toNat + 1) (p + 1) [] (by omega)).1
        omega
      · rw [if_neg h3]
        have := (lx_sf_ln (T p) (lx_at T n (p + 1)) (lx_at T n (p + 2)) h).1
        omega
theorem rl_74 (hA : as_74 xs) (hB : rd_B T n S) (h7 : S 14 7 = 74) (h8 : S 14 8 = 1) (h18 : S 18 (-1) = 60) (hW : wd_at S 74 64) (hb : S 74 7 ≤ 200000 ∧ S 74 1 ≤ 2000000 ∧ S 76 (-1) ≤ 1000000 ∧ S 75 (-1) ≤ 10000000) (h3 : S 14 3 = 0) : ∀ (f i : Nat) (pl : Int) (Z : wS), (n - (i : Int)).toNat < f → rl_I 74 64 T n S Z i pl → wJ (pe_GA xs) wY0 (mS [15, 16, 17, 75, 76, 77, 78, 79, 80]) (d + 8) t_XR_read ((pe_at t_XR_read.bl 1).getD (0, [])).2 [(0, (2, 14)), (5, (0, pl)), (6, (0, (i : Int)))] [] Z (fun o Z => o = .inl none ∧ ∃ c : Nat, rh_I 74 64 T n S Z c) := by
  intro f
  induction f with
  | zero => intro i pl Z h; exact absurd h (Nat.not_lt_zero _)
  | succ f ih =>
    intro i pl Z hf hz
    obtain ⟨g1, g2, g3, g4, g5, g6, ⟨g7, g7w⟩, g8⟩ := hz
    have hn := hB.2.2.1
    have hBZ := rd_B_rx (by decide) hB g1
    have fr := g1.2.2.2.2.2.2.1
    have cp := g1.2.2.2.2.2.1
    have mo := g1.1
    have hzW := g1.2.2.2.2.2.2.2.1
    have hzL := g1.2.2.2.2.2.2.2.2.1
    have hzR := g1.2.2.2.2.2.2.2.2.2.1
    have hzI := g1.2.2.2.2.2.2.2.2.2.2.1
    have hzm := g1.2.2.2.2.2.2.2.2.2.2.2
    have z7 : Z 14 7 = 74 := (fr 14 7 (by decide) (by decide) (by omega) (by omega) (by omega)).trans h7
    have z8 : Z 14 8 = 1 := (fr 14 8 (by decide) (by decide) (by omega) (by omega) (by omega)).trans h8
    have z18 : Z 18 (-1) = 60 := (fr 18 (-1) (by decide) (by decide) (by omega) (by omega) (by omega)).trans h18
    have s0 : 0 ≤ S 74 7 ∧ S 74 7 ≤ S 76 (-1) := hW.1
    have s1 : 0 ≤ S 74 1 ∧ S 74 1 ≤ S 75 (-1) := hW.2.1
    have cp' : (Z 76 (-1) ≤ S 76 (-1) ∨ Z 76 (-1) ≤ 2 * Z 74 7) ∧ (Z 75 (-1) ≤ S 75 (-1) ∨ Z 75 (-1) ≤ 2 * Z 74 1) ∧ (Z 15 (-1) ≤ S 15 (-1) ∨ Z 15 (-1) ≤ 2 * Z 14 3) := cp
    have hzb : rb_I 74 Z := by
      show Z 74 7 ≤ 400000 ∧ Z 74 1 ≤ 4000000 ∧ Z 76 (-1) ≤ 1000000 ∧ Z 75 (-1) ≤ 10000000 ∧ Z 14 3 ≤ 400000
      omega
    refine wa_iload (n := 6) rfl ?_
    refine wa_aload_n (n := 0) rfl ?_
    refine wb_gfi 14 rfl (wy_pr rfl) wt_14 wf_6_6 (v := n) (hBZ.2.1) (fun r1 => ?_)
    refine wa_icmpge (w_rg0 (by omega) (by omega)) (w_rg0 (by omega) (by omega)) ⟨_, rfl⟩ (fun c2 => ?_) (fun c2 => ?_)
    · skip
      refine wa_aload_n (n := 0) rfl ?_
      refine wa_iconst ?_
      refine wa_aload_n (n := 0) rfl ?_
      refine wb_gfi 14 rfl (wy_pr rfl) wt_14 wf_6_6 (v := n) (hBZ.2.1) (fun r3 => ?_)
      refine wa_iconst ?_
      refine wa_cv 14 rfl (wy_pr rfl) wt_14 (M2 := mS [15, 16, 17]) rfl at_XR_add ⟨_, rfl⟩ rfl rfl ⟨(Or.inr ⟨wy_pr rfl, mS_no rfl⟩), trivial, trivial, trivial⟩ trivial (fun _ _ q => mS_sub (by decide) q) (ad_ok (S := Z) hzI ⟨by omega, by omega⟩ ⟨by omega, by omega⟩ ⟨by omega, by omega⟩ hzR) (fun oq6 Sq6 hp7 q6 => ?_)
      rcases q6 with ⟨rfl, ad4⟩
      show wJ _ _ _ _ _ _ _ _ _ _
      generalize Sq6 = Z5 at ad4 ⊢
      refine wa_return rfl ?_
      have hx := rx_ad (w := 74) (by decide) (by decide) (by decide) hzW hzL hzR (by omega) ad4
      have q3 := ad4.1
      have q4 := ad4.2.1
      rw [g2] at q3 q4
      have e0 : ∀ x : Int, Z5 74 x = Z 74 x := fun x => ad4.2.2.2.1 74 x (by decide) (by decide) (by decide) (by decide) (by decide) (Or.inl (by decide))
      refine ⟨rfl, i, rx_tr ⟨s0.1, s1.1, by omega⟩ g1 hx, q3, fun k hk => ⟨tk_rx hzW hx (by omega) (g3 k hk).1, (g3 k hk).2⟩, ⟨q4.2.1, q4.1⟩, ?_, by omega, ⟨by rw [e0]; exact g7, wTo_x g7w hx (e0 7) (by omega)⟩, by rw [e0]; omega⟩
      rcases g4 with h | ⟨-, h⟩
      · left; omega
      · exact Or.inr h
    · skip
      refine wa_iload (n := 5) rfl ?_
      refine wa_aload_n (n := 0) rfl ?_
      refine wb_gfi 14 rfl (wy_pr rfl) wt_14 wf_6_6 (v := n) (hBZ.2.1) (fun r8 => ?_)
      refine wa_icmpge (w_rg0 (by omega) (by omega)) (w_rg0 (by omega) (by omega)) ⟨_, rfl⟩ (fun c9 => ?_) (fun c9 => ?_)
      · skip
        refine wa_aload_n (n := 0) rfl ?_
        refine wa_iconst ?_
        refine wa_aload_n (n := 0) rfl ?_
        refine wb_gfi 14 rfl (wy_pr rfl) wt_14 wf_6_6 (v := n) (hBZ.2.1) (fun r10 => ?_)
        refine wa_iconst ?_
        refine wa_cv 14 rfl (wy_pr rfl) wt_14 (M2 := mS [15, 16, 17]) rfl at_XR_add ⟨_, rfl⟩ rfl rfl ⟨(Or.inr ⟨wy_pr rfl, mS_no rfl⟩), trivial, trivial, trivial⟩ trivial (fun _ _ q => mS_sub (by decide) q) (ad_ok (S := Z) hzI ⟨by omega, by omega⟩ ⟨by omega, by omega⟩ ⟨by omega, by omega⟩ hzR) (fun oq13 Sq13 hp14 q13 => ?_)
        rcases q13 with ⟨rfl, ad11⟩
        show wJ _ _ _ _ _ _ _ _ _ _
        generalize Sq13 = Z12 at ad11 ⊢
        refine wa_return rfl ?_
        have hx := rx_ad (w := 74) (by decide) (by decide) (by decide) hzW hzL hzR (by omega) ad11
        have q3 := ad11.1
        have q4 := ad11.2.1
        rw [g2] at q3 q4
        have e0 : ∀ x : Int, Z12 74 x = Z 74 x := fun x => ad11.2.2.2.1 74 x (by decide) (by decide) (by decide) (by decide) (by decide) (Or.inl (by decide))
        refine ⟨rfl, i, rx_tr ⟨s0.1, s1.1, by omega⟩ g1 hx, q3, fun k hk => ⟨tk_rx hzW hx (by omega) (g3 k hk).1, (g3 k hk).2⟩, ⟨q4.2.1, q4.1⟩, ?_, by omega, ⟨by rw [e0]; exact g7, wTo_x g7w hx (e0 7) (by omega)⟩, by rw [e0]; omega⟩
        rcases g4 with h | ⟨-, h⟩
        · left; omega
        · exact Or.inr h
      · skip
        refine wa_aload_n (n := 0) rfl ?_
        refine wa_aload_n (n := 0) rfl ?_
        refine wa_iload (n := 5) rfl ?_
        refine wa_cv 14 rfl (wy_pr rfl) wt_14 (M2 := mS [15, 16, 17, 75, 76, 77, 78, 79, 80]) rfl at_XR_addToken ⟨_, rfl⟩ rfl rfl ⟨(Or.inr ⟨wy_pr rfl, mS_no rfl⟩), trivial, trivial, trivial⟩ ⟨(Or.inr ⟨wy_pr rfl, mS_no rfl⟩), trivial⟩ (fun _ _ q => q) (at_74 (S := Z) hA hBZ z7 z8 hzI hzW hzL hzR hzb ⟨by omega, by omega⟩ z18) (fun oq15 Sq15 hp16 q15 => ?_)
        rcases q15 with ⟨e, rfl, ht⟩
        show wJ _ _ _ _ _ _ _ _ _ _
        generalize Sq15 = Zt at ht ⊢
        have hBt := rd_B_rx (by decide) hBZ ht.1
        have hle := lx_en_le (T := T) (n := n) (h := 1) (p := pl) (by omega)
        have hee := ht.2.2.2.2.1
        have hpl : pl = tp T n 1 i := by rcases g4 with q | ⟨q, -⟩ <;> omega
        have hen : pl ≤ e ∧ e ≤ n := by
          rw [hee]
          by_cases h5 : lx_tk T n 1 pl = 5
          · rw [if_pos h5]; omega
          · rw [if_neg h5]; exact ⟨hle.1, hle.2.1 h5⟩
        refine wa_cv 14 rfl (wy_pr rfl) wt_14 (M2 := fun _ => False) rfl at_XR_behindBlanks ⟨_, rfl⟩ rfl rfl ⟨(Or.inr ⟨wy_pr rfl, fun q => q⟩), trivial, trivial, trivial⟩ trivial (fun _ _ q => False.elim q) (bb_ok (S := Zt) (p := e) hBt ⟨by omega, by omega⟩) (fun oq17 Sq17 hp18 q17 => ?_)
        rcases q17 with ⟨rfl, rfl⟩
        show wJ _ _ _ _ _ _ _ _ _ _
        have hge := lx_bl_rg T n ((n - e).toNat + 1) e (by omega)
        have hge : e ≤ lx_go T n e ∧ lx_go T n e ≤ n := hge
        refine wa_istore (n := 5) rfl ?_
        refine wa_iinc rfl rfl ?_
        refine wa_goto ⟨_, rfl⟩ ?_
        refine wJ_S (ih (i + 1) (lx_go T n e) Zt (by omega) ?_) ⟨rfl, rfl, rfl, trivial⟩
        obtain ⟨t1, t2, t3, t4, t5, t6, ⟨t7, t7w⟩, t8⟩ := ht
        rw [g2] at t2 t3 t4 t6 t7w
        have hgt : lx_tk T n 1 pl = 5 ∨ pl + 1 ≤ lx_go T n e := by
          by_cases h5 : lx_tk T n 1 pl = 5
          · exact Or.inl h5
          · right
            have : pl + 1 ≤ lx_en T n 1 pl := lx_en_gx (by omega) h5
            rw [if_neg h5] at hee; omega
        refine ⟨rx_tr ⟨s0.1, s1.1, by omega⟩ g1 t1, by omega, fun k hk => ?_, ?_, ?_, ⟨?_, hge.2⟩, ⟨?_, fun k k0 k1 => ?_⟩, ?_⟩
        · by_cases hki : k = i
          · subst hki
            rw [hpl] at t3 t4 t6
            exact ⟨⟨by omega, by omega, t3, t4, t6⟩, fun _ => rfl⟩
          · obtain ⟨q1, q2⟩ := g3 k (by omega)
            refine ⟨tk_rx hzW t1 (by omega) q1, fun q5 => ?_⟩
            have := g5 k (q2 q5) q5; omega
        · by_cases h5 : lx_tk T n 1 pl = 5
          · rw [if_pos h5] at hee; exact Or.inr ⟨by rw [hee, lx_go_n], i, rfl, by rw [← hpl]; exact h5⟩
          · rw [if_neg h5] at hee; left; rw [hee, hpl]; rfl
        · intro k hk q5
          have : k = i := by omega
          subst this
          rw [← hpl] at q5; rw [if_pos q5] at hee; rw [hee, lx_go_n]
        · rcases hgt with h5 | h5
          · rw [if_pos h5] at hee; omega
          · omega
        · omega
        · by_cases hk7 : k < Z 74 7
          · obtain ⟨j, j0, j1, j2⟩ := g7w k k0 hk7
            exact ⟨j, by omega, j1, (t1.2.2.2.2.1 j (by omega) (by omega)).2.2.trans j2⟩
          · rcases t7w with z | ⟨z1, z2⟩
            · omega
            · exact ⟨i, by omega, by rw [← hpl]; exact z1, by rw [z2]; omega⟩
        · omega
theorem rl_163 (hA : as_163 xs) (hB : rd_B T n S) (h7 : S 14 7 = 163) (h8 : S 14 8 = 1) (h18 : S 18 (-1) = 60) (hW : wd_at S 163 64) (hb : S 163 7 ≤ 200000 ∧ S 163 1 ≤ 2000000 ∧ S 165 (-1) ≤ 1000000 ∧ S 164 (-1) ≤ 10000000) (h3 : S 14 3 = 0) : ∀ (f i : Nat) (pl : Int) (Z : wS), (n - (i : Int)).toNat < f → rl_I 163 64 T n S Z i pl → wJ (pe_GA xs) wY0 (mS [15, 16, 17, 164, 165, 166, 167, 168, 169]) (d + 8) t_XR_read ((pe_at t_XR_read.bl 1).getD (0, [])).2 [(0, (2, 14)), (5, (0, pl)), (6, (0, (i : Int)))] [] Z (fun o Z => o = .inl none ∧ ∃ c : Nat, rh_I 163 64 T n S Z c) := by
  intro f
  induction f with
  | zero => intro i pl Z h; exact absurd h (Nat.not_lt_zero _)
  | succ f ih =>
    intro i pl Z hf hz
    obtain ⟨g1, g2, g3, g4, g5, g6, ⟨g7, g7w⟩, g8⟩ := hz
    have hn := hB.2.2.1
    have hBZ := rd_B_rx (by decide) hB g1
    have fr := g1.2.2.2.2.2.2.1
    have cp := g1.2.2.2.2.2.1
    have mo := g1.1
    have hzW := g1.2.2.2.2.2.2.2.1
    have hzL := g1.2.2.2.2.2.2.2.2.1
    have hzR := g1.2.2.2.2.2.2.2.2.2.1
    have hzI := g1.2.2.2.2.2.2.2.2.2.2.1
    have hzm := g1.2.2.2.2.2.2.2.2.2.2.2
    have z7 : Z 14 7 = 163 := (fr 14 7 (by decide) (by decide) (by omega) (by omega) (by omega)).trans h7
    have z8 : Z 14 8 = 1 := (fr 14 8 (by decide) (by decide) (by omega) (by omega) (by omega)).trans h8
    have z18 : Z 18 (-1) = 60 := (fr 18 (-1) (by decide) (by decide) (by omega) (by omega) (by omega)).trans h18
    have s0 : 0 ≤ S 163 7 ∧ S 163 7 ≤ S 165 (-1) := hW.1
    have s1 : 0 ≤ S 163 1 ∧ S 163 1 ≤ S 164 (-1) := hW.2.1
    have cp' : (Z 165 (-1) ≤ S 165 (-1) ∨ Z 165 (-1) ≤ 2 * Z 163 7) ∧ (Z 164 (-1) ≤ S 164 (-1) ∨ Z 164 (-1) ≤ 2 * Z 163 1) ∧ (Z 15 (-1) ≤ S 15 (-1) ∨ Z 15 (-1) ≤ 2 * Z 14 3) := cp
    have hzb : rb_I 163 Z := by
      show Z 163 7 ≤ 400000 ∧ Z 163 1 ≤ 4000000 ∧ Z 165 (-1) ≤ 1000000 ∧ Z 164 (-1) ≤ 10000000 ∧ Z 14 3 ≤ 400000
      omega
    refine wa_iload (n := 6) rfl ?_
    refine wa_aload_n (n := 0) rfl ?_
    refine wb_gfi 14 rfl (wy_pr rfl) wt_14 wf_6_6 (v := n) (hBZ.2.1) (fun r1 => ?_)
    refine wa_icmpge (w_rg0 (by omega) (by omega)) (w_rg0 (by omega) (by omega)) ⟨_, rfl⟩ (fun c2 => ?_) (fun c2 => ?_)
    · skip
      refine wa_aload_n (n := 0) rfl ?_
      refine wa_iconst ?_
      refine wa_aload_n (n := 0) rfl ?_
      refine wb_gfi 14 rfl (wy_pr rfl) wt_14 wf_6_6 (v := n) (hBZ.2.1) (fun r3 => ?_)
      refine wa_iconst ?_
      refine wa_cv 14 rfl (wy_pr rfl) wt_14 (M2 := mS [15, 16, 17]) rfl at_XR_add ⟨_, rfl⟩ rfl rfl ⟨(Or.inr ⟨wy_pr rfl, mS_no rfl⟩), trivial, trivial, trivial⟩ trivial (fun _ _ q => mS_sub (by decide) q) (ad_ok (S := Z) hzI ⟨by omega, by omega⟩ ⟨by omega, by omega⟩ ⟨by omega, by omega⟩ hzR) (fun oq6 Sq6 hp7 q6 => ?_)
      rcases q6 with ⟨rfl, ad4⟩
      show wJ _ _ _ _ _ _ _ _ _ _
      generalize Sq6 = Z5 at ad4 ⊢
      refine wa_return rfl ?_
      have hx := rx_ad (w := 163) (by decide) (by decide) (by decide) hzW hzL hzR (by omega) ad4
      have q3 := ad4.1
      have q4 := ad4.2.1
      rw [g2] at q3 q4
      have e0 : ∀ x : Int, Z5 163 x = Z 163 x := fun x => ad4.2.2.2.1 163 x (by decide) (by decide) (by decide) (by decide) (by decide) (Or.inl (by decide))
      refine ⟨rfl, i, rx_tr ⟨s0.1, s1.1, by omega⟩ g1 hx, q3, fun k hk => ⟨tk_rx hzW hx (by omega) (g3 k hk).1, (g3 k hk).2⟩, ⟨q4.2.1, q4.1⟩, ?_, by omega, ⟨by rw [e0]; exact g7, wTo_x g7w hx (e0 7) (by omega)⟩, by rw [e0]; omega⟩
      rcases g4 with h | ⟨-, h⟩
      · left; omega
      · exact Or.inr h
    · skip
      refine wa_iload (n := 5) rfl ?_
      refine wa_aload_n (n := 0) rfl ?_
      refine wb_gfi 14 rfl (wy_pr rfl) wt_14 wf_6_6 (v := n) (hBZ.2.1) (fun r8 => ?_)
      refine wa_icmpge (w_rg0 (by omega) (by omega)) (w_rg0 (by omega) (by omega)) ⟨_, rfl⟩ (fun c9 => ?_) (fun c9 => ?_)
      · skip
        refine wa_aload_n (n := 0) rfl ?_
        refine wa_iconst ?_
        refine wa_aload_n (n := 0) rfl ?_
        refine wb_gfi 14 rfl (wy_pr rfl) wt_14 wf_6_6 (v := n) (hBZ.2.1) (fun r10 => ?_)
        refine wa_iconst ?_
        refine wa_cv 14 rfl (wy_pr rfl) wt_14 (M2 := mS [15, 16, 17]) rfl at_XR_add ⟨_, rfl⟩ rfl rfl ⟨(Or.inr ⟨wy_pr rfl, mS_no rfl⟩), trivial, trivial, trivial⟩ trivial (fun _ _ q => mS_sub (by decide) q) (ad_ok (S := Z) hzI ⟨by omega, by omega⟩ ⟨by omega, by omega⟩ ⟨by omega, by omega⟩ hzR) (fun oq13 Sq13 hp14 q13 => ?_)
        rcases q13 with ⟨rfl, ad11⟩
        show wJ _ _ _ _ _ _ _ _ _ _
        generalize Sq13 = Z12 at ad11 ⊢
        refine wa_return rfl ?_
        have hx := rx_ad (w := 163) (by decide) (by decide) (by decide) hzW hzL hzR (by omega) ad11
        have q3 := ad11.1
        have q4 := ad11.2.1
        rw [g2] at q3 q4
        have e0 : ∀ x : Int, Z12 163 x = Z 163 x := fun x => ad11.2.2.2.1 163 x (by decide) (by decide) (by decide) (by decide) (by decide) (Or.inl (by decide))
        refine ⟨rfl, i, rx_tr ⟨s0.1, s1.1, by omega⟩ g1 hx, q3, fun k hk => ⟨tk_rx hzW hx (by omega) (g3 k hk).1, (g3 k hk).2⟩, ⟨q4.2.1, q4.1⟩, ?_, by omega, ⟨by rw [e0]; exact g7, wTo_x g7w hx (e0 7) (by omega)⟩, by rw [e0]; omega⟩
        rcases g4 with h | ⟨-, h⟩
        · left; omega
        · exact Or.inr h
      · skip
        refine wa_aload_n (n := 0) rfl ?_
        refine wa_aload_n (n := 0) rfl ?_
        refine wa_iload (n := 5) rfl ?_
        refine wa_cv 14 rfl (wy_pr rfl) wt_14 (M2 := mS [15, 16, 17, 164, 165, 166, 167, 168, 169]) rfl at_XR_addToken ⟨_, rfl⟩ rfl rfl ⟨(Or.inr ⟨wy_pr rfl, mS_no rfl⟩), trivial, trivial, trivial⟩ ⟨(Or.inr ⟨wy_pr rfl, mS_no rfl⟩), trivial⟩ (fun _ _ q => q) (at_163 (S := Z) hA hBZ z7 z8 hzI hzW hzL hzR hzb ⟨by omega, by omega⟩ z18) (fun oq15 Sq15 hp16 q15 => ?_)
        rcases q15 with ⟨e, rfl, ht⟩
        show wJ _ _ _ _ _ _ _ _ _ _
        generalize Sq15 = Zt at ht ⊢
        have hBt := rd_B_rx (by decide) hBZ ht.1
        have hle := lx_en_le (T := T) (n := n) (h := 1) (p := pl) (by omega)
        have hee := ht.2.2.2.2.1
        have hpl : pl = tp T n 1 i := by rcases g4 with q | ⟨q, -⟩ <;> omega
        have hen : pl ≤ e ∧ e ≤ n := by
          rw [hee]
          by_cases h5 : lx_tk T n 1 pl = 5
          · rw [if_pos h5]; omega
          · rw [if_neg h5]; exact ⟨hle.1, hle.2.1 h5⟩
        refine wa_cv 14 rfl (wy_pr rfl) wt_14 (M2 := fun _ => False) rfl at_XR_behindBlanks ⟨_, rfl⟩ rfl rfl ⟨(Or.inr ⟨wy_pr rfl, fun q => q⟩), trivial, trivial, trivial⟩ trivial (fun _ _ q => False.elim q) (bb_ok (S := Zt) (p := e) hBt ⟨by omega, by omega⟩) (fun oq17 Sq17 hp18 q17 => ?_)
        rcases q17 with ⟨rfl, rfl⟩
        show wJ _ _ _ _ _ _ _ _ _ _
        have hge := lx_bl_rg T n ((n - e).toNat + 1) e (by omega)
        have hge : e ≤ lx_go T n e ∧ lx_go T n e ≤ n := hge
        refine wa_istore (n := 5) rfl ?_
        refine wa_iinc rfl rfl ?_
        refine wa_goto ⟨_, rfl⟩ ?_
        refine wJ_S (ih (i + 1) (lx_go T n e) Zt (by omega) ?_) ⟨rfl, rfl, rfl, trivial⟩
        obtain ⟨t1, t2, t3, t4, t5, t6, ⟨t7, t7w⟩, t8⟩ := ht
        rw [g2] at t2 t3 t4 t6 t7w
        have hgt : lx_tk T n 1 pl = 5 ∨ pl + 1 ≤ lx_go T n e := by
          by_cases h5 : lx_tk T n 1 pl = 5
          · exact Or.inl h5
          · right
            have : pl + 1 ≤ lx_en T n 1 pl := lx_en_gx (by omega) h5
            rw [if_neg h5] at hee; omega
        refine ⟨rx_tr ⟨s0.1, s1.1, by omega⟩ g1 t1, by omega, fun k hk => ?_, ?_, ?_, ⟨?_, hge.2⟩, ⟨?_, fun k k0 k1 => ?_⟩, ?_⟩
        · by_cases hki : k = i
          · subst hki
            rw [hpl] at t3 t4 t6
            exact ⟨⟨by omega, by omega, t3, t4, t6⟩, fun _ => rfl⟩
          · obtain ⟨q1, q2⟩ := g3 k (by omega)
            refine ⟨tk_rx hzW t1 (by omega) q1, fun q5 => ?_⟩
            have := g5 k (q2 q5) q5; omega
        · by_cases h5 : lx_tk T n 1 pl = 5
          · rw [if_pos h5] at hee; exact Or.inr ⟨by rw [hee, lx_go_n], i, rfl, by rw [← hpl]; exact h5⟩
          · rw [if_neg h5] at hee; left; rw [hee, hpl]; rfl
        · intro k hk q5
          have : k = i := by omega
          subst this
          rw [← hpl] at q5; rw [if_pos q5] at hee; rw [hee, lx_go_n]
        · rcases hgt with h5 | h5
          · rw [if_pos h5] at hee; omega
          · omega
        · omega
        · by_cases hk7 : k < Z 163 7
          · obtain ⟨j, j0, j1, j2⟩ := g7w k k0 hk7
            exact ⟨j, by omega, j1, (t1.2.2.2.2.1 j (by omega) (by omega)).2.2.trans j2⟩
          · rcases t7w with z | ⟨z1, z2⟩
            · omega
            · exact ⟨i, by omega, by rw [← hpl]; exact z1, by rw [z2]; omega⟩
        · omega
end W9g
